/-! ===== by hand: raised ===== -/
def RZ (good : Nat → Prop) (r : Int32) : Prop := (∃ k, k < 10 ∧ good k ∧ (∀ j, j < k → ¬ good j) ∧ r = nI k) ∨ ((∀ j, j < 10 → ¬ good j) ∧ r = -5)
theorem RZ_one {good : Nat → Prop} {r r' : Int32} (h : RZ good r) (h' : RZ good r') : r = r' := by
  rcases h with ⟨k, a1, a2, a3, a4⟩ | ⟨a1, a2⟩ <;> rcases h' with ⟨k', b1, b2, b3, b4⟩ | ⟨b1, b2⟩
  · have e : k = k' := by
      rcases Nat.lt_trichotomy k k' with h | h | h
      · exact (b3 k h a2).elim
      · exact h
      · exact (a3 k' h b2).elim
    rw [a4, b4, e]
  · exact (b1 k a1 a2).elim
  · exact (a1 k' b1 b2).elim
  · rw [a2, b2]
theorem C_raise {a : Int32} {nb tb : Fn} {Q : Fn → Prop} (h : ∀ tb, (∀ r, r < 3 → tb r = if nb r + a < 9 then nb r + a else 9) → Q tb) : WX7_raiseBanks a tb nb Q := by
  suffices g : ∀ (n i : Nat) (tb : Fn), i ≤ 3 → 3 < n + i → (∀ r, r < i → tb r = if nb r + a < 9 then nb r + a else 9) → WX7_raiseBanks_2 a nb Q n (nI i) tb from
    ⟨4, g 4 0 tb (by decide) (by decide) (fun r h => absurd h (Nat.not_lt_zero r))⟩
  intro n
  induction n with
  | zero => intro i tb h1 h2; omega
  | succ n ih =>
    intro i tb hi hn ht
    unfold WX7_raiseBanks_2
    by_cases c3 : 3 ≤ i
    · exact br_t (nI_le (a := 3) c3 (by omega)) (h tb (fun r hr => ht r (by omega)))
    · have v3 : vp_in (nI i) 3 := vp_in_nI (by omega) (by decide)
      refine br_f (nI_ge (b := 3) (by omega) (by decide)) ⟨v3, ?_⟩
      rintro _ rfl
      refine ⟨v3, ?_⟩
      rintro _ rfl
      rw [nI_1, nI_clamp (by omega)]
      refine ih (i + 1) _ (by omega) (by omega) (fun r hr => ?_)
      by_cases cr : r = i
      · subst cr
        exact if_pos rfl
      · exact (if_neg cr).trans (ht r (by omega))
set_option maxHeartbeats 4000000 in
theorem M_raised {s : Fn} {R : Nat} {good : Nat → Prop} {ll : Int32} (p1 : s 0 = nI R) (z : 1 ≤ R) (b1 : R ≤ 3)
    (hh : ∀ k, k < 10 → ∀ (Q : Int32 → Int32 → Int32 → Int32 → Int32 → Int32 → Fn → Fn → Fn → Fn → Fn → Prop), (∀ h o d fh fr lv bo wy nx tr, good k → Q 1 h o d fh fr lv bo wy nx tr) → (∀ h o d fh fr lv bo wy nx tr, ¬ good k → Q 0 h o d fh fr lv bo wy nx tr) → ∀ h o d fh fr lv bo wy nx tr, WX11_areHolding h 0 (-1) ll 0 (nI k) o d fh fr s lv bo wy nx tr Q)
    {KK : Int32 → Int32 → Int32 → Int32 → Int32 → Int32 → Fn → Fn → Fn → Fn → Fn → Prop} (hk : ∀ a1 a3 a4 a5 a6 f1 f2 f3 f4 f5, KK a1 0 a3 a4 a5 a6 f1 f2 f3 f4 f5) {r1 : Int32} (hr1 : RZ good r1) :
    ∀ h o d fh fr lv bo wy nx tr, WX11_raised h 0 (-1) ll 0 0 o d fh fr s lv bo wy nx tr (fun (r2 a1 a2 a3 a4 a5 a6 : Int32) (f1 f2 f3 f4 f5 : Fn) => ((r1 = r2 → KK a1 a2 a3 a4 a5 a6 f1 f2 f3 f4 f5) ∧ (¬ (r1 = r2) → False))) := by
  intro h o d fh fr lv bo wy nx tr
  unfold WX11_raised
  refine M_isRiver p1 b1 (fun z2 => absurd z2 (by omega)) (fun _ => br_f (by decide) ?_)
  have f52 : ∀ (r h hi o d fh fr : Int32) (lv bo wy nx tr : Fn), RZ good r → WX11_raised_52 0 (-1) ll 0 s r h hi o d fh fr lv bo wy nx tr (fun (r2 a1 a2 a3 a4 a5 a6 : Int32) (f1 f2 f3 f4 f5 : Fn) => ((r1 = r2 → KK a1 a2 a3 a4 a5 a6 f1 f2 f3 f4 f5) ∧ (¬ (r1 = r2) → False))) := by
    intro r h hi o d fh fr lv bo wy nx tr hr
    unfold WX11_raised_52
    exact same_K (RZ_one hr1 hr) (hk _ _ _ _ _ _ _ _ _ _)
  suffices g : ∀ (n k : Nat) (x1 h hi o d fh fr : Int32) (lv bo wy nx tr : Fn), k ≤ 10 → 11 < n + k → ((x1 = -5 ∧ ∀ j, j < k → ¬ good j) ∨ ((RZ good x1 ∧ x1 ≠ -5) ∧ 0 < n)) → WX11_raised_15 0 (-1) ll 0 s (fun (r2 a1 a2 a3 a4 a5 a6 : Int32) (f1 f2 f3 f4 f5 : Fn) => ((r1 = r2 → KK a1 a2 a3 a4 a5 a6 f1 f2 f3 f4 f5) ∧ (¬ (r1 = r2) → False))) n x1 (nI k) h hi o d fh fr lv bo wy nx tr from
    ⟨12, g 12 0 _ _ _ _ _ _ _ _ _ _ _ _ (by omega) (by omega) (Or.inl ⟨rfl, fun j h => absurd h (Nat.not_lt_zero j)⟩)⟩
  intro n
  induction n with
  | zero => intro k x1 h hi o d fh fr lv bo wy nx tr h1 h2; omega
  | succ n ih =>
    intro k x1 h hi o d fh fr lv bo wy nx tr hk10 hn hx
    unfold WX11_raised_15
    rcases hx with ⟨rfl, hx⟩ | ⟨⟨hx, hne⟩, -⟩
    · by_cases ck : 10 ≤ k
      · exact br_t (nI_le (a := 10) ck (by omega)) (f52 _ _ _ _ _ _ _ _ _ _ _ _ (Or.inr ⟨fun j hj => hx j (by omega), rfl⟩))
      · refine br_f (nI_ge (b := 10) (by omega) (by decide)) (br_t rfl ?_)
        refine hh k (by omega) _ (fun h o d fh fr lv bo wy nx tr hg => br_f (by decide) ?_) (fun h o d fh fr lv bo wy nx tr hg => br_t rfl ?_) _ _ _ _ _ _ _ _ _ _
        · unfold WX11_raised_45
          rintro _ rfl
          rw [nI_1]
          exact ih (k + 1) _ _ _ _ _ _ _ _ _ _ _ _ (by omega) (by omega) (Or.inr ⟨⟨Or.inl ⟨k, by omega, hg, hx, rfl⟩, by have := nI_pos (n := k) (by omega); grind⟩, by omega⟩)
        · unfold WX11_raised_45
          rintro _ rfl
          rw [nI_1]
          refine ih (k + 1) _ _ _ _ _ _ _ _ _ _ _ _ (by omega) (by omega) (Or.inl ⟨rfl, fun j hj => ?_⟩)
          by_cases cj : j = k
          · rw [cj]; exact hg
          · exact hx j (by omega)
    · exact br_c (fun _ => f52 _ _ _ _ _ _ _ _ _ _ _ _ hx) (fun _ => br_f hne (f52 _ _ _ _ _ _ _ _ _ _ _ _ hx))
set_option maxHeartbeats 4000000 in
theorem C_raised {R P S H C : Nat} {I : Nat → Int32} {F : Nat → Fn} {G : Nat → Nat → Option Nat} {ce : Nat → CT} {cin : Nat → Prop} {good : Nat → Prop} {tm th tl to tw sl sb sw : Fn} {tc : Nat → Option Nat}
    (hh : ∀ k, k < 10 → ∀ (tb : Fn), (∀ r, r < 3 → tb r = if F 1 r + nI k < 9 then F 1 r + nI k else 9) → ∀ (Q : Int32 → Int32 → Int32 → Int32 → Int32 → Int32 → Int32 → Int32 → Fn → Fn → Fn → Fn → Int32 → Int32 → Fn → Fn → Fn → Fn → Int32 → Int32 → Fn → Fn → Fn → Fn → Prop), (∀ fh nh rb s1 s2 s3 s4 b p l w nh2 rb2 bb2 pp2 ll2 ww2 nh3 rb3 bb3 pp3 ll3 ww3, good k → Q 1 fh nh rb s1 s2 s3 s4 b p l w nh2 rb2 bb2 pp2 ll2 ww2 nh3 rb3 bb3 pp3 ll3 ww3) → (∀ fh nh rb s1 s2 s3 s4 b p l w nh2 rb2 bb2 pp2 ll2 ww2 nh3 rb3 bb3 pp3 ll3 ww3, ¬ good k → Q 0 fh nh rb s1 s2 s3 s4 b p l w nh2 rb2 bb2 pp2 ll2 ww2 nh3 rb3 bb3 pp3 ll3 ww3) → ∀ fh nh rb s1 s2 s3 s4 b p l w nh2 rb2 bb2 pp2 ll2 ww2 nh3 rb3 bb3 pp3 ll3 ww3, WX7_isSafe 0 0 fh (nI R) (nI P) (nI S) (nI H) nh rb s1 s2 s3 s4 sb tc sl b p sw tb l w nh2 rb2 bb2 pp2 ll2 ww2 nh3 rb3 bb3 pp3 ll3 ww3 ce cin Q)
    {Q : Int32 → Int32 → Int32 → Int32 → Int32 → Int32 → Int32 → Int32 → Fn → Fn → Fn → Int32 → Fn → Fn → Fn → Int32 → Fn → Fn → Fn → (Nat → Option Nat) → Int32 → Int32 → Int32 → Int32 → Int32 → Int32 → Fn → Fn → Fn → Fn → Int32 → Int32 → Fn → Fn → Fn → Fn → Int32 → Int32 → Fn → Fn → Fn → Fn → Prop} (hQ : ∀ r tb fh nh rb s1 s2 s3 s4 b p l w nh2 rb2 bb2 pp2 ll2 ww2 nh3 rb3 bb3 pp3 ll3 ww3, RZ good r → Q r 0 0 fh (nI R) (nI P) (nI S) (I 7) tb tm th (nI H) tl to tw (nI H) sl sb sw tc nh rb s1 s2 s3 s4 b p l w nh2 rb2 bb2 pp2 ll2 ww2 nh3 rb3 bb3 pp3 ll3 ww3) :
    ∀ tb fh nh rb s1 s2 s3 s4 b p l w nh2 rb2 bb2 pp2 ll2 ww2 nh3 rb3 bb3 pp3 ll3 ww3, ∃ n, WX10_raised_23 (nI C) (nI R) (nI P) (nI S) (I 7) (F 1) (F 2) (F 3) (nI H) (F 4) (F 5) (F 6) (G 0) ce cin Q n 0 0 0 fh (nI R) (nI P) (nI S) (I 7) tb tm th (nI H) tl to tw (nI H) sl sb sw tc nh rb s1 s2 s3 s4 b p l w nh2 rb2 bb2 pp2 ll2 ww2 nh3 rb3 bb3 pp3 ll3 ww3 := by
  intro tb fh nh rb s1 s2 s3 s4 b p l w nh2 rb2 bb2 pp2 ll2 ww2 nh3 rb3 bb3 pp3 ll3 ww3
  suffices g : ∀ (n k : Nat) (tb : Fn) (fh nh rb s1 s2 s3 s4 : Int32) (b p l w : Fn) (nh2 rb2 : Int32) (bb2 pp2 ll2 ww2 : Fn) (nh3 rb3 : Int32) (bb3 pp3 ll3 ww3 : Fn), k ≤ 10 → 10 < n + k → (∀ j, j < k → ¬ good j) → WX10_raised_23 (nI C) (nI R) (nI P) (nI S) (I 7) (F 1) (F 2) (F 3) (nI H) (F 4) (F 5) (F 6) (G 0) ce cin Q n (nI k) 0 0 fh (nI R) (nI P) (nI S) (I 7) tb tm th (nI H) tl to tw (nI H) sl sb sw tc nh rb s1 s2 s3 s4 b p l w nh2 rb2 bb2 pp2 ll2 ww2 nh3 rb3 bb3 pp3 ll3 ww3 from
    ⟨11, g 11 0 _ _ _ _ _ _ _ _ _ _ _ _ _ _ _ _ _ _ _ _ _ _ _ _  (by decide) (by decide) (fun j h => absurd h (Nat.not_lt_zero j))⟩
  intro n
  induction n with
  | zero => intro k tb fh nh rb s1 s2 s3 s4 b p l w nh2 rb2 bb2 pp2 ll2 ww2 nh3 rb3 bb3 pp3 ll3 ww3 h1 h2; omega
  | succ n ih =>
    intro k tb fh nh rb s1 s2 s3 s4 b p l w nh2 rb2 bb2 pp2 ll2 ww2 nh3 rb3 bb3 pp3 ll3 ww3 hk10 hn hx
    unfold WX10_raised_23
    by_cases ck : 10 ≤ k
    · exact br_t (nI_lt (a := 9) (by omega) (by omega)) (hQ _ _ _ _ _ _ _ _ _ _ _ _ _ _ _ _ _ _ _ _ _ _ _ _ _  (Or.inr ⟨fun j hj => hx j (by omega), rfl⟩))
    · refine br_f (nI_nlt (a := 9) (by omega) (by omega)) (C_raise (fun tb htb => hh k (by omega) tb htb _ (fun fh nh rb s1 s2 s3 s4 b p l w nh2 rb2 bb2 pp2 ll2 ww2 nh3 rb3 bb3 pp3 ll3 ww3 hg => br_f (by decide) (hQ _ _ _ _ _ _ _ _ _ _ _ _ _ _ _ _ _ _ _ _ _ _ _ _ _  (Or.inl ⟨k, by omega, hg, hx, rfl⟩))) (fun fh nh rb s1 s2 s3 s4 b p l w nh2 rb2 bb2 pp2 ll2 ww2 nh3 rb3 bb3 pp3 ll3 ww3 hg => br_t rfl ?_) _ _ _ _ _ _ _ _ _ _ _ _ _ _ _ _ _ _ _ _ _ _ _ ))
      rintro _ rfl
      rw [nI_1]
      refine ih (k + 1) _ _ _ _ _ _ _ _ _ _ _ _ _ _ _ _ _ _ _ _ _ _ _ _  (by omega) (by omega) (fun j hj => ?_)
      by_cases cj : j = k
      · rw [cj]; exact hg
      · exact hx j (by omega)
set_option maxHeartbeats 4000000 in
theorem S_c18 {L : Nat} {xs : Fn} {x3 : Int32} {I F G ce cin} {K : KT} (hi : INV I F G ce cin) (hK : ∀ I F G ce cin, INV I F G ce cin → K I F G ce cin) : WL_c18 L xs x3 I F G ce cin K := by
  obtain ⟨R, P, S, O, H, C, N, V, ad, ⟨q1, q2, q3, q4, q5, q6, q7⟩, ⟨p1, p2, p3, p4, p5, p6, p7⟩, ⟨b1, b2, b3, b4, b5, b6, b7, b8⟩, hR, hZ, hN, hV, hH⟩ := NOW hi.1
  obtain ⟨m1, m2, m3, m4⟩ := hi.2.2.1
  unfold WL_c18 WX10_raised
  rw [q1, q2, q3, q5, q6]
  refine C_isRiver b1 (fun z => br_t rfl ?_) (fun z => br_f (by decide) ?_)
  · unfold WX11_raised
    exact M_isRiver p1 b1 (fun _ => br_t rfl (same_K rfl (hK _ _ _ _ _ hi))) (fun z2 => absurd z2 (by omega))
  · have hok : ∀ k, k < 10 → okR (rvM (F 55) R 0 (nI k) false (fun r => F 55 (145 + r)) V) := fun k hk => rvM_ok z b1 b7 (fun r hr => (hR r hr).2.2.1) ⟨(show nI 0 ≤ nI k from nI_le (Nat.zero_le _) (by omega)), nI_le (b := 9) (by omega) (by decide)⟩ hH
    have hσ : ∀ k, okS (rvM (F 55) R 0 (nI k) false (fun r => F 55 (145 + r)) V) (stM (F 55) H) 900 := fun k => stM_ok rfl b6 hR
    have hM : ∀ k, MWr (rvM (F 55) R 0 (nI k) false (fun r => F 55 (145 + r)) V) (F 55) 0 (-1) (I 69) 0 (nI k) := fun k => MWr_of p1 b1 b7 ⟨fun _ => rfl, fun _ => rfl⟩ hH (fun c hc => ⟨(hV c hc).2.2.1, left0 (by omega) (hV c hc).2.2.2.2.1⟩)
    refine C_begin b1 b7 (fun r hr => ?_) (fun c hc => ⟨ad c, (hV c hc).1, (hV c hc).2.1⟩) (fun tb tm th tl to tw sl sb sw tc g1 g2 g3 g4 => ?_) _ _ _ _ _ _ _ _ _ _ _ _ _ _ _ _ _ _
    · rw [(hR r hr).1.2.2.2.2.2]; exact (hR r hr).2.2.2.2
    have hCK : ∀ k, CKr (rvM (F 55) R 0 (nI k) false (fun r => F 55 (145 + r)) V) 0 tc ce cin := fun k => CKr_of b1 b7 hH (fun r hr => by
      obtain ⟨k1, k2⟩ := g3 r hr
      have e := (hR r hr).1.2.2.2.2.2
      exact ⟨fun h => k1 (e.trans h), fun c hc h => ⟨ad c, (k2 c hc (e.trans h)).trans (hV c hc).1, (hV c hc).2.1, (hV c hc).2.2.2.2.2.1⟩⟩)
    refine C_raised (I := I) (H := H) (good := fun k => Safe (rvM (F 55) R 0 (nI k) false (fun r => F 55 (145 + r)) V) P (stM (F 55) H) S) (fun k hk tb htb Q hq1 hq0 fh nh rb s1 s2 s3 s4 b p l w nh2 rb2 bb2 pp2 ll2 ww2 nh3 rb3 bb3 pp3 ll3 ww3 => ?_) (fun r tb fh nh rb s1 s2 s3 s4 b p l w nh2 rb2 bb2 pp2 ll2 ww2 nh3 rb3 bb3 pp3 ll3 ww3 hrz => ?_) _ _ _ _ _ _ _ _ _ _ _ _ _ _ _ _ _ _ _ _ _ _ _ _ 
    · exact C_isSafe (rvM (F 55) R 0 (nI k) false (fun r => F 55 (145 + r)) V) (hok k hk) ⟨fun _ => rfl, fun _ => rfl⟩ (fun r hr => by
        replace hr : r < R := hr
        rw [htb r (by omega), (hR r hr).1.2.1]
        show _ = (if F 55 (133 + r) + nI k ≤ 9 then F 55 (133 + r) + nI k else 9)
        grind) (hCK k) (stM (F 55) H) P S (hσ k) (b3 z) b2 (by omega) (fun r hr => (g2 r (Nat.lt_of_lt_of_le hr b1)).1.trans (hR r hr).1.1) (fun r hr => (g2 r (Nat.lt_of_lt_of_le hr b1)).2.1.trans (hR r hr).1.2.2.2.1) (fun r hr => (g2 r (Nat.lt_of_lt_of_le hr b1)).2.2.trans (hR r hr).1.2.2.2.2.1) (fun r fh nh rb s1 s2 s3 s4 b p l w nh2 rb2 bb2 pp2 ll2 ww2 nh3 rb3 bb3 pp3 ll3 ww3 hsr => by
          rcases hsr with ⟨rfl, -, hs⟩ | ⟨rfl, n, row, hf, -⟩
          · exact hq1 _ _ _ _ _ _ _ _ _ _ _ _ _ _ _ _ _ _ _ _ _ _ _  hs
          · exact hq0 _ _ _ _ _ _ _ _ _ _ _ _ _ _ _ _ _ _ _ _ _ _ _  (fun hs => Fst_safe hf hs)) _ _ _ _ _ _ _ _ _ _ _ _ _ _ _ _ _ _ _ _ _ _ _ 
    · rw [m1, m2, m3, m4]
      refine M_raised (good := fun k => Safe (rvM (F 55) R 0 (nI k) false (fun r => F 55 (145 + r)) V) P (stM (F 55) H) S) p1 z b1 (fun k hk7 Q hq1 hq0 h o d fh fr lv bo wy nx tr => ?_) (fun a1 a3 a4 a5 a6 f1 f2 f3 f4 f5 => ?_) hrz _ _ _ _ _ _ _ _ _ _
      · exact M_hold (hM k) (hok k hk7) (hσ k) (stM_MS p5) p3 (by omega) p2 b2 (fun r' a1 a2 a3 a4 a5 f1 f2 f3 f4 f5 hr' => by
          rcases hr' with ⟨rfl, -, hs⟩ | ⟨rfl, n, row, hf, -⟩
          · exact hq1 _ _ _ _ _ _ _ _ _ _ hs
          · exact hq0 _ _ _ _ _ _ _ _ _ _ (fun hs => Fst_safe hf hs)) _ _ _ _ _ _ _ _ _ _
      · exact hK _ _ _ _ _ ⟨hi.1, hi.2.1, ⟨m1, m2, m3, rfl⟩, hi.2.2.2⟩
