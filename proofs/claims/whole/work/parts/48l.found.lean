/-! ===== by hand: found ===== -/
def FZ (good : Nat → Prop) (r : Int32) : Prop := (∃ k, k < 4 ∧ good k ∧ (∀ j, j < k → ¬ good j) ∧ r = nI k) ∨ ((∀ j, j < 4 → ¬ good j) ∧ r = -5)
theorem FZ_one {good : Nat → Prop} {r r' : Int32} (h : FZ good r) (h' : FZ good r') : r = r' := by
  rcases h with ⟨k, a1, a2, a3, a4⟩ | ⟨a1, a2⟩ <;> rcases h' with ⟨k', b1, b2, b3, b4⟩ | ⟨b1, b2⟩
  · have e : k = k' := by
      rcases Nat.lt_trichotomy k k' with h | h | h
      · exact (b3 k h a2).elim
      · exact h
      · exact (a3 k' h b2).elim
    rw [a4, b4, e]
  · exact (b1 k a1 a2).elim
  · exact (a1 k' b1 b2).elim
  · rw [a2, b2]
set_option maxHeartbeats 4000000 in
theorem M_found {s : Fn} {R C c j0 : Nat} {good : Nat → Prop} {ll : Int32} (p1 : s 0 = nI R) (b1 : R ≤ 3) (hj : j0 < R) (b7 : C ≤ 8) (hc : c < C) (hh0 : s (145 + j0) = nI c)
    (hh : ∀ k, k < 4 → ∀ s' : Fn, (∀ q, q ≠ 166 + c → s' q = s q) → s' (166 + c) = nI k → ∀ (Q : Int32 → Int32 → Int32 → Int32 → Int32 → Int32 → Fn → Fn → Fn → Fn → Fn → Prop), (∀ h o d fh fr lv bo wy nx tr, good k → Q 1 h o d fh fr lv bo wy nx tr) → (∀ h o d fh fr lv bo wy nx tr, ¬ good k → Q 0 h o d fh fr lv bo wy nx tr) → ∀ h o d fh fr lv bo wy nx tr, WX11_areHolding h 0 (-1) ll 0 0 o d fh fr s' lv bo wy nx tr Q)
    {Q : Int32 → Int32 → Int32 → Int32 → Int32 → Int32 → Fn → Fn → Fn → Fn → Fn → Fn → Prop} (hQ : ∀ r h o d fh fr lv bo wy nx tr, FZ good r → Q r h o d fh fr s lv bo wy nx tr) :
    ∀ h o d fh fr lv bo wy nx tr, WX11_found (nI j0) h 0 (-1) ll 0 0 o d fh fr s lv bo wy nx tr Q := by
  intro h o d fh fr lv bo wy nx tr
  unfold WX11_found
  refine M_isReach p1 b1 (fun w => (no_reach (by omega) hj rfl w).elim) (fun _ _ _ => br_f (by decide) ?_)
  rw [show (145 : Int32) + nI j0 = nI (145 + j0) by rw [← nI_add]; rfl, nI_clamp (n := 145 + j0) (by omega), hh0]
  refine ⟨vp_in_nI (by omega) (by decide), ?_⟩
  rintro _ rfl
  have e166 : (166 : Int32) + nI c = nI (166 + c) := by rw [← nI_add]; rfl
  have c166 : (nI (166 + c)).toNatClampNeg = 166 + c := nI_clamp (by omega)
  rw [e166, c166]
  refine br_f (by have := nI_pos (n := c) (by omega); grind) ⟨vp_in_nI (by omega) (by decide), ?_⟩
  rintro _ rfl
  have f94 : ∀ (s' : Fn) (x4 h o d fh fr : Int32) (lv bo wy nx tr : Fn), (∀ q, q ≠ 166 + c → s' q = s q) → FZ good x4 → WX11_found_94 0 (-1) ll 0 0 (nI c) (s (166 + c)) x4 h o d fh fr s' lv bo wy nx tr Q := by
    intro s' x4 h o d fh fr lv bo wy nx tr hA hz
    unfold WX11_found_94
    rw [e166, c166]
    refine ⟨vp_in_nI (by omega) (by decide), ?_⟩
    have es : upd s' (166 + c) (s (166 + c)) = s := by
      funext q
      by_cases e : q = 166 + c
      · rw [e, pk_us]
      · rw [pk_un e]; exact hA q e
    rw [es]
    exact hQ _ _ _ _ _ _ _ _ _ _ _ hz
  suffices g : ∀ (n k : Nat) (s' : Fn) (x4 h o d fh fr : Int32) (lv bo wy nx tr : Fn), k ≤ 4 → 5 < n + k → (∀ q, q ≠ 166 + c → s' q = s q) → ((x4 = -5 ∧ ∀ j, j < k → ¬ good j) ∨ ((FZ good x4 ∧ x4 ≠ -5) ∧ 0 < n)) → WX11_found_47 0 (-1) ll 0 0 Q n (nI c) (s (166 + c)) x4 (nI k) h o d fh fr s' lv bo wy nx tr from
    ⟨6, g 6 0 _ _ _ _ _ _ _ _ _ _ _ _ (by omega) (by omega) (fun q _ => rfl) (Or.inl ⟨rfl, fun j h => absurd h (Nat.not_lt_zero j)⟩)⟩
  intro n
  induction n with
  | zero => intro k s' x4 h o d fh fr lv bo wy nx tr h1 h2; omega
  | succ n ih =>
    intro k s' x4 h o d fh fr lv bo wy nx tr hk4 hn hA hx
    unfold WX11_found_47
    rw [e166, c166]
    rcases hx with ⟨rfl, hx⟩ | ⟨⟨hx, hne⟩, -⟩
    · by_cases ck : 4 ≤ k
      · exact br_t (nI_le (a := 4) ck (by omega)) (f94 _ _ _ _ _ _ _ _ _ _ _ _ hA (Or.inr ⟨fun j hj => hx j (by omega), rfl⟩))
      · refine br_f (nI_ge (b := 4) (by omega) (by decide)) (br_t rfl ⟨vp_in_nI (by omega) (by decide), ?_⟩)
        have hA' : ∀ q, q ≠ 166 + c → upd s' (166 + c) (nI k) q = s q := fun q hq => (pk_un hq).trans (hA q hq)
        refine hh k (by omega) _ hA' pk_us _ (fun h o d fh fr lv bo wy nx tr gd => br_f (by decide) ?_) (fun h o d fh fr lv bo wy nx tr gd => br_t rfl ?_) _ _ _ _ _ _ _ _ _ _
        · unfold WX11_found_86
          rintro _ rfl
          rw [nI_1]
          exact ih (k + 1) _ _ _ _ _ _ _ _ _ _ _ _ (by omega) (by omega) hA' (Or.inr ⟨⟨Or.inl ⟨k, by omega, gd, hx, rfl⟩, by have := nI_pos (n := k) (by omega); grind⟩, by omega⟩)
        · unfold WX11_found_86
          rintro _ rfl
          rw [nI_1]
          refine ih (k + 1) _ _ _ _ _ _ _ _ _ _ _ _ (by omega) (by omega) hA' (Or.inl ⟨rfl, fun j hj => ?_⟩)
          by_cases cj : j = k
          · rw [cj]; exact gd
          · exact hx j (by omega)
    · exact br_c (fun _ => f94 _ _ _ _ _ _ _ _ _ _ _ _ hA hx) (fun _ => br_f hne (f94 _ _ _ _ _ _ _ _ _ _ _ _ hA hx))
set_option maxHeartbeats 4000000 in
theorem C_found {R P S H C c : Nat} {I : Nat → Int32} {F : Nat → Fn} {G : Nat → Nat → Option Nat} {ce : Nat → CT} {cin : Nat → Prop} {ad : Nat → Nat} {hg : Fn} {good : Nat → Prop} (h3 : R ≤ 3) (b7 : C ≤ 8) (hc : c < C) (hhg : ∀ r, r < R → hg r = -1 ∨ ∃ q, q < C ∧ hg r = nI q) (had : ∀ q, q < C → cin (ad q) ∧ ct_number (ce (ad q)) = nI q) {tb tm th tl to tw sl sb sw : Fn}
    (hh : ∀ k, k < 4 → ∀ (tc : Nat → Option Nat) (ce1 : Nat → CT) (cin1 : Nat → Prop) (an : Nat), CHs R C c hg ad ce cin tc (va_up ce1 an (tpV (ce (ad c)) (nI k))) (fun a => a = an ∨ cin1 a) → (∀ r, r < R → hg r = nI c → tc r = some an) → ∀ (Q : Int32 → Int32 → Int32 → Int32 → Int32 → Int32 → Int32 → Int32 → Fn → Fn → Fn → Fn → Int32 → Int32 → Fn → Fn → Fn → Fn → Int32 → Int32 → Fn → Fn → Fn → Fn → Prop), (∀ fh nh rb s1 s2 s3 s4 b p l w nh2 rb2 bb2 pp2 ll2 ww2 nh3 rb3 bb3 pp3 ll3 ww3, good k → Q 1 fh nh rb s1 s2 s3 s4 b p l w nh2 rb2 bb2 pp2 ll2 ww2 nh3 rb3 bb3 pp3 ll3 ww3) → (∀ fh nh rb s1 s2 s3 s4 b p l w nh2 rb2 bb2 pp2 ll2 ww2 nh3 rb3 bb3 pp3 ll3 ww3, ¬ good k → Q 0 fh nh rb s1 s2 s3 s4 b p l w nh2 rb2 bb2 pp2 ll2 ww2 nh3 rb3 bb3 pp3 ll3 ww3) → ∀ fh nh rb s1 s2 s3 s4 b p l w nh2 rb2 bb2 pp2 ll2 ww2 nh3 rb3 bb3 pp3 ll3 ww3, WX7_isSafe 0 0 fh (nI R) (nI P) (nI S) (nI H) nh rb s1 s2 s3 s4 sb tc sl b p sw tb l w nh2 rb2 bb2 pp2 ll2 ww2 nh3 rb3 bb3 pp3 ll3 ww3 (va_up ce1 an (tpV (ce (ad c)) (nI k))) (fun a => a = an ∨ cin1 a) Q)
    {Q : Int32 → Int32 → Int32 → Int32 → Int32 → Int32 → Int32 → Int32 → Fn → Fn → Fn → Int32 → Fn → Fn → Fn → Int32 → Fn → Fn → Fn → (Nat → Option Nat) → Int32 → Int32 → Int32 → Int32 → Int32 → Int32 → Fn → Fn → Fn → Fn → Int32 → Int32 → Fn → Fn → Fn → Fn → Int32 → Int32 → Fn → Fn → Fn → Fn → Prop} (hQ : ∀ r tc fh nh rb s1 s2 s3 s4 b p l w nh2 rb2 bb2 pp2 ll2 ww2 nh3 rb3 bb3 pp3 ll3 ww3, FZ good r → Q r 0 0 fh (nI R) (nI P) (nI S) (I 7) tb tm th (nI H) tl to tw (nI H) sl sb sw tc nh rb s1 s2 s3 s4 b p l w nh2 rb2 bb2 pp2 ll2 ww2 nh3 rb3 bb3 pp3 ll3 ww3) :
    ∀ (tc : Nat → Option Nat) (ce1 : Nat → CT) (cin1 : Nat → Prop), CHs R C c hg ad ce cin tc ce1 cin1 → ∀ fh nh rb s1 s2 s3 s4 b p l w nh2 rb2 bb2 pp2 ll2 ww2 nh3 rb3 bb3 pp3 ll3 ww3, ∃ m, m ≤ 8 ∧ WX10_found_50 (nI C) (nI R) (nI P) (nI S) (I 7) (F 3) (G 0) (F 1) (F 2) (nI H) (F 4) (F 5) (F 6) ce cin Q m (ad c) 0 0 0 fh (nI R) (nI P) (nI S) (I 7) tb tm th (nI H) tl to tw (nI H) sl sb sw tc nh rb s1 s2 s3 s4 b p l w nh2 rb2 bb2 pp2 ll2 ww2 nh3 rb3 bb3 pp3 ll3 ww3 ce1 cin1 := by
  intro tc ce1 cin1 hch fh nh rb s1 s2 s3 s4 b p l w nh2 rb2 bb2 pp2 ll2 ww2 nh3 rb3 bb3 pp3 ll3 ww3
  suffices g : ∀ (m k : Nat) (tc : Nat → Option Nat) (ce1 : Nat → CT) (cin1 : Nat → Prop) (fh nh rb s1 s2 s3 s4 : Int32) (b p l w : Fn) (nh2 rb2 : Int32) (bb2 pp2 ll2 ww2 : Fn) (nh3 rb3 : Int32) (bb3 pp3 ll3 ww3 : Fn), k ≤ 4 → 4 < m + k → (∀ j, j < k → ¬ good j) → CHs R C c hg ad ce cin tc ce1 cin1 → WX10_found_50 (nI C) (nI R) (nI P) (nI S) (I 7) (F 3) (G 0) (F 1) (F 2) (nI H) (F 4) (F 5) (F 6) ce cin Q m (ad c) (nI k) 0 0 fh (nI R) (nI P) (nI S) (I 7) tb tm th (nI H) tl to tw (nI H) sl sb sw tc nh rb s1 s2 s3 s4 b p l w nh2 rb2 bb2 pp2 ll2 ww2 nh3 rb3 bb3 pp3 ll3 ww3 ce1 cin1 from
    ⟨5, by decide, g 5 0 _ _ _ _ _ _ _ _ _ _ _ _ _ _ _ _ _ _ _ _ _ _ _ _ _ _ (Nat.zero_le _) (by decide) (fun j h => absurd h (Nat.not_lt_zero j)) hch⟩
  intro m
  induction m with
  | zero => intro k tc ce1 cin1 fh nh rb s1 s2 s3 s4 b p l w nh2 rb2 bb2 pp2 ll2 ww2 nh3 rb3 bb3 pp3 ll3 ww3 h1 h2; omega
  | succ m ih =>
    intro k tc ce1 cin1 fh nh rb s1 s2 s3 s4 b p l w nh2 rb2 bb2 pp2 ll2 ww2 nh3 rb3 bb3 pp3 ll3 ww3 hk hm hx hch
    unfold WX10_found_50
    by_cases ck : 4 ≤ k
    · exact br_t (nI_lt (a := 3) (by omega) (by omega)) (hQ _ tc fh nh rb s1 s2 s3 s4 b p l w nh2 rb2 bb2 pp2 ll2 ww2 nh3 rb3 bb3 pp3 ll3 ww3 (Or.inr ⟨fun j hj => hx j (by omega), rfl⟩))
    · refine br_f (nI_nlt (a := 3) (by omega) (by omega)) ⟨(had c hc).1, fun an hf => ?_⟩
      refine C_change (t := (tpV (ce (ad c)) (nI k))) h3 b7 hc hhg had hch hf (had c hc).2 (fun tc' hch' hcc => ?_)
      refine hh k (by omega) tc' ce1 cin1 an hch' hcc _ (fun fh nh rb s1 s2 s3 s4 b p l w nh2 rb2 bb2 pp2 ll2 ww2 nh3 rb3 bb3 pp3 ll3 ww3 gd => br_f (by decide) (hQ _ tc' fh nh rb s1 s2 s3 s4 b p l w nh2 rb2 bb2 pp2 ll2 ww2 nh3 rb3 bb3 pp3 ll3 ww3 (Or.inl ⟨k, by omega, gd, hx, rfl⟩))) (fun fh nh rb s1 s2 s3 s4 b p l w nh2 rb2 bb2 pp2 ll2 ww2 nh3 rb3 bb3 pp3 ll3 ww3 gd => br_t rfl ?_) _ _ _ _ _ _ _ _ _ _ _ _ _ _ _ _ _ _ _ _ _ _ _
      rintro _ rfl
      rw [nI_1]
      refine ih (k + 1) _ _ _ _ _ _ _ _ _ _ _ _ _ _ _ _ _ _ _ _ _ _ _ _ _ _ (by omega) (by omega) (fun j hj => ?_) hch'
      by_cases cj : j = k
      · rw [cj]; exact gd
      · exact hx j (by omega)
theorem picM_v {s s' : Fn} {c q k : Nat} {v : CV} (hc : c < 8) (hq : q < 8) (hv : okV v) (h : ∀ i, i ≠ 166 + c → s' i = s i) (hk : s' (166 + c) = nI k) (hp : picM s q v) : picM s' q (if q = c then setV v (nI k) else v) := by
  obtain ⟨h1, h2, h3, h4⟩ := hp
  have h6 := hv.1.2
  have tl : ∀ j, j < vN v → s' (182 + 6 * q + j) = vDg v j ∧ s' (230 + (6 * q + j)) = nI (vFr v j) ∧ s' (278 + (6 * q + j)) = nI (vFr v j + vCn v j) ∧ ∀ k, vFr v j ≤ k → k < vFr v j + vCn v j → s' (334 + 140 * q + k) = vSt v k := fun j hj => by
    obtain ⟨a1, a2, a3, a4⟩ := h4 j hj
    exact ⟨(h _ (by omega)).trans a1, (h _ (by omega)).trans a2, (h _ (by omega)).trans a3, fun k k1 k2 => (h _ (by omega)).trans (a4 k k1 k2)⟩
  by_cases e : q = c
  · subst e
    rw [if_pos rfl]
    exact ⟨(h _ (by omega)).trans h1, hk, (h _ (by omega)).trans h3, tl⟩
  · rw [if_neg e]
    exact ⟨(h _ (by omega)).trans h1, (h _ (by omega)).trans h2, (h _ (by omega)).trans h3, tl⟩
set_option maxHeartbeats 4000000 in
theorem S_c15 {L : Nat} {xs : Fn} {x3 : Int32} {I F G ce cin} {K : KT} (hi : INV I F G ce cin) (v1 : vp_in (x3 + 1) L) (hK : ∀ I F G ce cin, INV I F G ce cin → K I F G ce cin) : WL_c15 L xs x3 I F G ce cin K := by
  obtain ⟨R, P, S, O, H, C, N, V, ad, ⟨q1, q2, q3, q4, q5, q6, q7⟩, ⟨p1, p2, p3, p4, p5, p6, p7⟩, ⟨b1, b2, b3, b4, b5, b6, b7, b8⟩, hR, hZ, hN, hV, hH⟩ := NOW hi.1
  obtain ⟨m1, m2, m3, m4⟩ := hi.2.2.1
  unfold WL_c15 WX10_found
  generalize xs (x3 + 1).toNatClampNeg = x
  rw [q1, q2, q3, q5, q6]
  refine ⟨v1, ?_⟩
  have hT : ∀ r, r < R → F 3 r = -1 ∨ ∃ c, c < C ∧ F 3 r = nI c := fun r hr => by rw [(hR r hr).1.2.2.2.2.2]; exact (hR r hr).2.2.2.2
  have hT' : ∀ r, r < R → F 55 (145 + r) = -1 ∨ ∃ c, c < C ∧ F 55 (145 + r) = nI c := fun r hr => (hR r hr).2.2.2.2
  have had : ∀ q, q < C → cin (ad q) ∧ ct_number (ce (ad q)) = nI q := fun q hq => ⟨(hV q hq).2.1, (hV q hq).2.2.2.2.2.2⟩
  have hVc : ∀ q, q < C → cin (ad q) ∧ picC (V q) (ce (ad q)) := fun q hq => ⟨(hV q hq).2.1, (hV q hq).2.2.2.2.2.1⟩
  have hok : 1 ≤ R → ∀ W, okH R C (fun r => F 55 (145 + r)) W → okR (rvM (F 55) R 0 0 false (fun r => F 55 (145 + r)) W) := fun z W hW => rvM_ok z b1 b7 (fun r hr => (hR r hr).2.2.1) (by decide) hW
  have hσ : ∀ W, okS (rvM (F 55) R 0 0 false (fun r => F 55 (145 + r)) W) (stM (F 55) H) 900 := fun W => stM_ok rfl b6 hR
  have hbk : ∀ (tb tm : Fn) (W : Nat → CV), (∀ k, k < 3 → tb k = F 1 k ∧ tm k = F 2 k) → ∀ r, r < R → tb r = rB (rvM (F 55) R 0 0 false (fun r => F 55 (145 + r)) W) r := fun tb tm W g1 r hr => by rw [(g1 r (by omega)).1, (hR r hr).1.2.1, rB_0 (hR r hr).2.2.1.2]
  have hu : ((0 : Int32) = 0 ↔ false = false) := ⟨fun _ => rfl, fun _ => rfl⟩
  refine C_isReach b1 (fun d => br_t rfl ⟨v1, ?_⟩) (fun j0 hj e => br_f (by decide) ?_)
  · unfold WX11_found
    exact M_isReach p1 b1 (fun _ => br_t rfl (same_K rfl (hK _ _ _ _ _ hi))) (fun j hj e => (no_reach (by omega) hj e d).elim)
  subst e
  have z : 1 ≤ R := by omega
  have ehg := (hR j0 hj).1.2.2.2.2.2
  rw [nI_clamp (n := j0) (by omega)]
  refine ⟨vp_in_nI (by omega) (by decide), C_cardOf b7 (fun d => ⟨fun _ => ⟨v1, ?_⟩, fun a z => by cases z⟩) (fun c hc e => ⟨fun z => (by rw [(hV c hc).1] at z; cases z), fun a ha => ?_⟩)⟩
  · have hm1 : F 55 (145 + j0) = -1 := by
      rcases hT' j0 hj with h | ⟨q, q1, q2⟩
      · exact h
      · exact (no_reach (by omega) q1 (ehg.trans q2) d).elim
    unfold WX11_found
    refine M_isReach p1 b1 (fun w => (no_reach (by omega) hj rfl w).elim) (fun _ _ _ => br_f (by decide) ?_)
    rw [show (145 : Int32) + nI j0 = nI (145 + j0) by rw [← nI_add]; rfl, nI_clamp (n := 145 + j0) (by omega), hm1]
    refine ⟨vp_in_nI (by omega) (by decide), ?_⟩
    rintro _ rfl
    exact br_t rfl (same_K rfl (hK _ _ _ _ _ hi))
  obtain rfl : ad c = a := by rw [(hV c hc).1] at ha; exact Option.some.inj ha
  have hcj : F 55 (145 + j0) = nI c := ehg.symm.trans e
  obtain ⟨-, -, pm, pv, pl, pc, pn⟩ := hV c hc
  obtain ⟨good, eg⟩ : ∃ good : Nat → Prop, good = fun k => Safe (rvM (F 55) R 0 0 false (fun r => F 55 (145 + r)) (vSet V c (setV (V c) (nI k)))) P (stM (F 55) H) S := ⟨_, rfl⟩
  have hvk : ∀ k, k < 4 → okV (setV (V c) (nI k)) := fun k hk => okV_V pv ⟨nI_pos' (by omega), nI_le (b := 3) (by omega) (by decide)⟩
  -- the model
  have mo : ∀ (Q : Int32 → Int32 → Int32 → Int32 → Int32 → Int32 → Fn → Fn → Fn → Fn → Fn → Fn → Prop), (∀ r h o d fh fr lv bo wy nx tr, FZ good r → Q r h o d fh fr (F 55) lv bo wy nx tr) → WX11_found (nI j0) (I 66) 0 (-1) (I 69) 0 0 (I 72) (I 73) (I 74) (I 75) (F 55) (F 60) (F 61) (F 62) (F 63) (F 64) Q := by
    intro Q hQ
    refine M_found (good := good) p1 b1 hj b7 hc hcj (fun k hk s' hA hB Q hq1 hq0 h o d fh fr lv bo wy nx tr => ?_) hQ _ _ _ _ _ _ _ _ _ _
    refine M_hold (MWr_of2 (s := F 55) (s' := s') ((hA 0 (by omega)).trans p1) b1 b7 hu (okH_set (c := c) hH (hvk k hk)) (fun q hq => ?_) (fun r hr => hA _ (by omega)) (fun r hr => hA _ (by omega)) (fun r hr => hA _ (by omega))) (hok z _ (okH_set hH (hvk k hk))) (hσ _) ⟨(hA 4 (by omega)).trans p5, fun r hr => ⟨hA _ (by omega), hA _ (by omega), hA _ (by omega)⟩⟩ ((hA 2 (by omega)).trans p3) (by omega) ((hA 1 (by omega)).trans p2) b2 (fun r' a1 a2 a3 a4 a5 f1 f2 f3 f4 f5 hr' => ?_) _ _ _ _ _ _ _ _ _ _
    · have hpq := picM_v (c := c) (k := k) (by omega) (show q < 8 by omega) (hV q hq).2.2.2.1 hA hB (hV q hq).2.2.1
      by_cases e : q = c
      · subst e
        rw [if_pos rfl] at hpq
        rw [vSet_s]
        exact ⟨hpq, left0 (by omega) pl⟩
      · rw [if_neg e] at hpq
        rw [vSet_n e]
        exact ⟨hpq, left0 (by omega) (hV q hq).2.2.2.2.1⟩
    · subst eg
      rcases hr' with ⟨rfl, -, hs⟩ | ⟨rfl, n, row, hf, -⟩
      · exact hq1 _ _ _ _ _ _ _ _ _ _ hs
      · exact hq0 _ _ _ _ _ _ _ _ _ _ (fun hs => Fst_safe hf hs)
  rw [m1, m2, m3, m4]
  -- the program
  refine C_begin b1 b7 hT (fun c hc => ⟨ad c, (hV c hc).1, (hV c hc).2.1⟩) (fun tb tm th tl to tw sl sb sw tc g1 g2 g3 g4 => ?_) _ _ _ _ _ _ _ _ _ _ _ _ _ _ _ _ _ _
  have g3' : ∀ r, r < R → (F 55 (145 + r) = -1 → tc r = none) ∧ ∀ q, q < C → F 55 (145 + r) = nI q → tc r = some (ad q) := fun r hr => by
    obtain ⟨k1, k2⟩ := g3 r hr
    have e := (hR r hr).1.2.2.2.2.2
    exact ⟨fun h => k1 (e.trans h), fun q hq h => (k2 q hq (e.trans h)).trans (hV q hq).1⟩
  have w1 : ∀ r, r < R → sl r = F 55 (130 + r) := fun r hr => (g2 r (Nat.lt_of_lt_of_le hr b1)).1.trans (hR r hr).1.1
  have w2 : ∀ r, r < R → sb r = F 55 (139 + r) := fun r hr => (g2 r (Nat.lt_of_lt_of_le hr b1)).2.1.trans (hR r hr).1.2.2.2.1
  have w3 : ∀ r, r < R → sw r = F 55 (142 + r) := fun r hr => (g2 r (Nat.lt_of_lt_of_le hr b1)).2.2.trans (hR r hr).1.2.2.2.2.1
  refine C_found (hg := fun r => F 55 (145 + r)) (ad := ad) (c := c) (good := good) (I := I) b1 b7 hc hT' had (fun k hk tc' ce1 cin1 an hch hcc Q hq1 hq0 fh nh rb s1 s2 s3 s4 b p l w nh2 rb2 bb2 pp2 ll2 ww2 nh3 rb3 bb3 pp3 ll3 ww3 => ?_) (fun r tc fh nh rb s1 s2 s3 s4 b p l w nh2 rb2 bb2 pp2 ll2 ww2 nh3 rb3 bb3 pp3 ll3 ww3 hr => ⟨v1, mo _ (fun r' a1 a3 a4 a5 a6 f2 f3 f4 f5 f6 hr' => same_K (FZ_one hr hr') (hK _ _ _ _ _ ⟨hi.1, hi.2.1, ⟨m1, m2, m3, m4⟩, hi.2.2.2⟩))⟩) tc ce cin (CHs_0 hc had g3' g4) _ _ _ _ _ _ _ _ _ _ _ _ _ _ _ _ _ _ _ _ _ _ _
  refine C_isSafe (rvM (F 55) R 0 0 false (fun r => F 55 (145 + r)) (vSet V c (setV (V c) (nI k)))) (hok z _ (okH_set hH (hvk k hk))) hu (hbk tb tm _ g1) (CK_change b1 b7 hH (hvk k hk) hVc hch hcc (picC_V pc pl)) (stM (F 55) H) P S (hσ _) (b3 z) b2 (by omega) w1 w2 w3 (fun r fh nh rb s1 s2 s3 s4 b p l w nh2 rb2 bb2 pp2 ll2 ww2 nh3 rb3 bb3 pp3 ll3 ww3 hsr => ?_) _ _ _ _ _ _ _ _ _ _ _ _ _ _ _ _ _ _ _ _ _ _ _
  subst eg
  rcases hsr with ⟨rfl, -, hs⟩ | ⟨rfl, n, row, hf, -⟩
  · exact hq1 _ _ _ _ _ _ _ _ _ _ _ _ _ _ _ _ _ _ _ _ _ _ _ hs
  · exact hq0 _ _ _ _ _ _ _ _ _ _ _ _ _ _ _ _ _ _ _ _ _ _ _ (fun hs => Fst_safe hf hs)
