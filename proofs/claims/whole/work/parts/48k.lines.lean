/-! ===== by hand: lines ===== -/
noncomputable def liS (good : Nat → Prop) : Nat → Int32
  | 0 => 0
  | k + 1 => @ite Int32 (good k) (Classical.propDecidable _) (liS good k) (liS good k ||| ((1 : Int32) <<< (nI k &&& 31)))
theorem liS_y {good : Nat → Prop} {k : Nat} (h : good k) : liS good (k + 1) = liS good k := by rw [liS, if_pos h]
theorem liS_n {good : Nat → Prop} {k : Nat} (h : ¬ good k) : liS good (k + 1) = liS good k ||| ((1 : Int32) <<< (nI k &&& 31)) := by rw [liS, if_neg h]
set_option maxHeartbeats 4000000 in
theorem M_lines {s : Fn} {R C c n : Nat} {good0 : Prop} {good : Nat → Prop} {ll : Int32} (p1 : s 0 = nI R) (b1 : R ≤ 3) (z : 1 ≤ R) (p6 : s 5 = nI C) (b7 : C ≤ 8) (hc : c < C) (hn : s (174 + c) = nI n) (hn6 : n ≤ 6)
    (hh0 : ∀ (Q : Int32 → Int32 → Int32 → Int32 → Int32 → Int32 → Fn → Fn → Fn → Fn → Fn → Prop), (∀ h o d fh fr lv bo wy nx tr, good0 → Q 1 h o d fh fr lv bo wy nx tr) → (∀ h o d fh fr lv bo wy nx tr, ¬ good0 → Q 0 h o d fh fr lv bo wy nx tr) → ∀ h o d fh fr lv bo wy nx tr, WX11_areHolding h 0 (-1) ll 0 0 o d fh fr s lv bo wy nx tr Q)
    (hh : ∀ k, k < n → ∀ (Q : Int32 → Int32 → Int32 → Int32 → Int32 → Int32 → Fn → Fn → Fn → Fn → Fn → Prop), (∀ h o d fh fr lv bo wy nx tr, good k → Q 1 h o d fh fr lv bo wy nx tr) → (∀ h o d fh fr lv bo wy nx tr, ¬ good k → Q 0 h o d fh fr lv bo wy nx tr) → ∀ h o d fh fr lv bo wy nx tr, WX11_areHolding h 0 (nI c) (nI k) 0 0 o d fh fr s lv bo wy nx tr Q)
    {Q : Int32 → Int32 → Int32 → Int32 → Int32 → Int32 → Int32 → Int32 → Fn → Fn → Fn → Fn → Fn → Prop} (hQ1 : good0 → ∀ h ll o d fh fr lv bo wy nx tr, Q (liS good n) h (-1) ll o d fh fr lv bo wy nx tr) (hQ0 : ¬ good0 → ∀ h ll o d fh fr lv bo wy nx tr, Q 0 h (-1) ll o d fh fr lv bo wy nx tr) :
    ∀ h o d fh fr lv bo wy nx tr, WX11_lines (nI c) h 0 (-1) ll 0 0 o d fh fr s lv bo wy nx tr Q := by
  intro h o d fh fr lv bo wy nx tr
  unfold WX11_lines
  refine M_isCard p6 b7 (fun w => (no_reach (by omega) hc rfl w).elim) (fun _ _ _ => br_f (by decide) (M_isRiver p1 b1 (fun z2 => absurd z2 (by omega)) (fun _ => br_f (by decide) ?_)))
  have v0 : vp_in (174 + nI c) 1454 ∧ s (174 + nI c).toNatClampNeg = nI n := by
    rw [show (174 : Int32) + nI c = nI (174 + c) by rw [← nI_add]; rfl, nI_clamp (n := 174 + c) (by omega)]
    exact ⟨vp_in_nI (by omega) (by decide), hn⟩
  have g : good0 → ∀ (m k : Nat) (x2 h ll o d fh fr : Int32) (lv bo wy nx tr : Fn), k ≤ n → n < m + k → x2 = liS good k → WX11_lines_30 (nI c) 0 0 0 s Q m x2 1 (nI k) h (-1) ll o d fh fr lv bo wy nx tr := by
    intro g0 m
    induction m with
    | zero => intro k x2 h ll o d fh fr lv bo wy nx tr h1 h2; omega
    | succ m ih =>
      intro k x2 h ll o d fh fr lv bo wy nx tr hk hm h2
      unfold WX11_lines_30
      refine ⟨v0.1, ?_⟩
      rw [v0.2]
      by_cases ck : n ≤ k
      · have e : k = n := by omega
        refine br_t (nI_le ck (by omega)) ?_
        rw [h2, e]; exact hQ1 g0 _ _ _ _ _ _ _ _ _ _ _
      · refine br_f (nI_ge (by omega) (by omega)) (br_f (by decide) ?_)
        have f76 : ∀ (s1 h o d fh fr : Int32) (lv bo wy nx tr : Fn), x2 ||| s1 = liS good (k + 1) → WX11_lines_76 (nI c) 0 0 0 s 1 (nI k) x2 s1 h (nI c) (nI k) o d fh fr lv bo wy nx tr Q (WX11_lines_30 (nI c) 0 0 0 s Q m) := by
          intro s1 h o d fh fr lv bo wy nx tr e
          unfold WX11_lines_76
          rintro _ rfl _ rfl
          rw [nI_1, e]
          exact ih (k + 1) _ _ _ _ _ _ _ _ _ _ _ _ (by omega) (by omega) rfl
        refine hh k (by omega) _ (fun h o d fh fr lv bo wy nx tr gd => br_f (by decide) (f76 _ _ _ _ _ _ _ _ _ _ _ ?_)) (fun h o d fh fr lv bo wy nx tr gd => br_t rfl (f76 _ _ _ _ _ _ _ _ _ _ _ ?_)) _ _ _ _ _ _ _ _ _ _
        · rw [liS_y gd, Int32.or_zero, h2]
        · rw [liS_n gd, h2]
  refine hh0 _ (fun h o d fh fr lv bo wy nx tr gd => ⟨n + 1, g gd (n + 1) 0 _ _ _ _ _ _ _ _ _ _ _ _ (Nat.zero_le _) (by omega) rfl⟩) (fun h o d fh fr lv bo wy nx tr gd => ⟨1, ?_⟩) _ _ _ _ _ _ _ _ _ _
  unfold WX11_lines_30
  exact ⟨v0.1, br_c (fun _ => hQ0 gd _ _ _ _ _ _ _ _ _ _ _) (fun _ => br_t rfl (hQ0 gd _ _ _ _ _ _ _ _ _ _ _))⟩
set_option maxHeartbeats 4000000 in
theorem C_lines {R P S H C c n : Nat} {I : Nat → Int32} {F : Nat → Fn} {G : Nat → Nat → Option Nat} {ce : Nat → CT} {cin : Nat → Prop} {ad : Nat → Nat} {hg : Fn} {good : Nat → Prop} (h3 : R ≤ 3) (b7 : C ≤ 8) (hc : c < C) (hhg : ∀ r, r < R → hg r = -1 ∨ ∃ q, q < C ∧ hg r = nI q) (had : ∀ q, q < C → cin (ad q) ∧ ct_number (ce (ad q)) = nI q) (hn6 : n ≤ 6) (hln : ct_lineCount (ce (ad c)) = nI n) {tb tm th tl to tw sl sb sw : Fn}
    (hh : ∀ k, k < n → ∀ (tc : Nat → Option Nat) (ce1 : Nat → CT) (cin1 : Nat → Prop) (an : Nat), CHs R C c hg ad ce cin tc (va_up ce1 an (tpL (ce (ad c)) (nI k))) (fun a => a = an ∨ cin1 a) → (∀ r, r < R → hg r = nI c → tc r = some an) → ∀ (Q : Int32 → Int32 → Int32 → Int32 → Int32 → Int32 → Int32 → Int32 → Fn → Fn → Fn → Fn → Int32 → Int32 → Fn → Fn → Fn → Fn → Int32 → Int32 → Fn → Fn → Fn → Fn → Prop), (∀ fh nh rb s1 s2 s3 s4 b p l w nh2 rb2 bb2 pp2 ll2 ww2 nh3 rb3 bb3 pp3 ll3 ww3, good k → Q 1 fh nh rb s1 s2 s3 s4 b p l w nh2 rb2 bb2 pp2 ll2 ww2 nh3 rb3 bb3 pp3 ll3 ww3) → (∀ fh nh rb s1 s2 s3 s4 b p l w nh2 rb2 bb2 pp2 ll2 ww2 nh3 rb3 bb3 pp3 ll3 ww3, ¬ good k → Q 0 fh nh rb s1 s2 s3 s4 b p l w nh2 rb2 bb2 pp2 ll2 ww2 nh3 rb3 bb3 pp3 ll3 ww3) → ∀ fh nh rb s1 s2 s3 s4 b p l w nh2 rb2 bb2 pp2 ll2 ww2 nh3 rb3 bb3 pp3 ll3 ww3, WX7_isSafe 0 0 fh (nI R) (nI P) (nI S) (nI H) nh rb s1 s2 s3 s4 sb tc sl b p sw tb l w nh2 rb2 bb2 pp2 ll2 ww2 nh3 rb3 bb3 pp3 ll3 ww3 (va_up ce1 an (tpL (ce (ad c)) (nI k))) (fun a => a = an ∨ cin1 a) Q)
    {Q : Int32 → Int32 → Int32 → Int32 → Int32 → Int32 → Int32 → Int32 → Fn → Fn → Fn → Int32 → Fn → Fn → Fn → Int32 → Fn → Fn → Fn → (Nat → Option Nat) → Int32 → Int32 → Int32 → Int32 → Int32 → Int32 → Fn → Fn → Fn → Fn → Int32 → Int32 → Fn → Fn → Fn → Fn → Int32 → Int32 → Fn → Fn → Fn → Fn → Prop} (hQ : ∀ tc fh nh rb s1 s2 s3 s4 b p l w nh2 rb2 bb2 pp2 ll2 ww2 nh3 rb3 bb3 pp3 ll3 ww3, Q (liS good n) 0 0 fh (nI R) (nI P) (nI S) (I 7) tb tm th (nI H) tl to tw (nI H) sl sb sw tc nh rb s1 s2 s3 s4 b p l w nh2 rb2 bb2 pp2 ll2 ww2 nh3 rb3 bb3 pp3 ll3 ww3) :
    ∀ (tc : Nat → Option Nat) (ce1 : Nat → CT) (cin1 : Nat → Prop), CHs R C c hg ad ce cin tc ce1 cin1 → ∀ fh nh rb s1 s2 s3 s4 b p l w nh2 rb2 bb2 pp2 ll2 ww2 nh3 rb3 bb3 pp3 ll3 ww3, ∃ m, m ≤ 8 ∧ WX10_lines_53 (nI C) (G 0) (nI R) (nI P) (nI S) (I 7) (F 1) (F 2) (F 3) (nI H) (F 4) (F 5) (F 6) ce cin Q m (ad c) 0 0 0 0 fh (nI R) (nI P) (nI S) (I 7) tb tm th (nI H) tl to tw (nI H) sl sb sw tc nh rb s1 s2 s3 s4 b p l w nh2 rb2 bb2 pp2 ll2 ww2 nh3 rb3 bb3 pp3 ll3 ww3 ce1 cin1 := by
  intro tc ce1 cin1 hch fh nh rb s1 s2 s3 s4 b p l w nh2 rb2 bb2 pp2 ll2 ww2 nh3 rb3 bb3 pp3 ll3 ww3
  suffices g : ∀ (m k : Nat) (x3 : Int32) (tc : Nat → Option Nat) (ce1 : Nat → CT) (cin1 : Nat → Prop) (fh nh rb s1 s2 s3 s4 : Int32) (b p l w : Fn) (nh2 rb2 : Int32) (bb2 pp2 ll2 ww2 : Fn) (nh3 rb3 : Int32) (bb3 pp3 ll3 ww3 : Fn), k ≤ n → n < m + k → x3 = liS good k → CHs R C c hg ad ce cin tc ce1 cin1 → WX10_lines_53 (nI C) (G 0) (nI R) (nI P) (nI S) (I 7) (F 1) (F 2) (F 3) (nI H) (F 4) (F 5) (F 6) ce cin Q m (ad c) x3 (nI k) 0 0 fh (nI R) (nI P) (nI S) (I 7) tb tm th (nI H) tl to tw (nI H) sl sb sw tc nh rb s1 s2 s3 s4 b p l w nh2 rb2 bb2 pp2 ll2 ww2 nh3 rb3 bb3 pp3 ll3 ww3 ce1 cin1 from
    ⟨n + 1, by omega, g (n + 1) 0 _ _ _ _ _ _ _ _ _ _ _ _ _ _ _ _ _ _ _ _ _ _ _ _ _ _ _ (Nat.zero_le _) (by omega) rfl hch⟩
  intro m
  induction m with
  | zero => intro k x3 tc ce1 cin1 fh nh rb s1 s2 s3 s4 b p l w nh2 rb2 bb2 pp2 ll2 ww2 nh3 rb3 bb3 pp3 ll3 ww3 h1 h2; omega
  | succ m ih =>
    intro k x3 tc ce1 cin1 fh nh rb s1 s2 s3 s4 b p l w nh2 rb2 bb2 pp2 ll2 ww2 nh3 rb3 bb3 pp3 ll3 ww3 hk hm h3' hch
    unfold WX10_lines_53
    refine ⟨(had c hc).1, ?_⟩
    by_cases ck : n ≤ k
    · have e : k = n := by omega
      refine br_t (by rw [hln]; exact nI_le ck (by omega)) ?_
      rw [h3', e]; exact hQ tc fh nh rb s1 s2 s3 s4 b p l w nh2 rb2 bb2 pp2 ll2 ww2 nh3 rb3 bb3 pp3 ll3 ww3
    · refine br_f (by rw [hln]; exact nI_ge (by omega) (by omega)) (fun an hf => ?_)
      refine C_change (t := (tpL (ce (ad c)) (nI k))) h3 b7 hc hhg had hch hf (had c hc).2 (fun tc' hch' hcc => ?_)
      have f100 : ∀ (x3 : Int32) (fh nh rb s1 s2 s3 s4 : Int32) (b p l w : Fn) (nh2 rb2 : Int32) (bb2 pp2 ll2 ww2 : Fn) (nh3 rb3 : Int32) (bb3 pp3 ll3 ww3 : Fn), x3 = liS good (k + 1) → WX10_lines_100 (nI C) (G 0) (nI R) (nI P) (nI S) (I 7) (F 1) (F 2) (F 3) (nI H) (F 4) (F 5) (F 6) ce cin (ad c) x3 (nI k) 0 0 fh (nI R) (nI P) (nI S) (I 7) tb tm th (nI H) tl to tw (nI H) sl sb sw tc' nh rb s1 s2 s3 s4 b p l w nh2 rb2 bb2 pp2 ll2 ww2 nh3 rb3 bb3 pp3 ll3 ww3 (va_up ce1 an (tpL (ce (ad c)) (nI k))) (fun a => a = an ∨ cin1 a) Q (WX10_lines_53 (nI C) (G 0) (nI R) (nI P) (nI S) (I 7) (F 1) (F 2) (F 3) (nI H) (F 4) (F 5) (F 6) ce cin Q m) := by
        intro x3 fh nh rb s1 s2 s3 s4 b p l w nh2 rb2 bb2 pp2 ll2 ww2 nh3 rb3 bb3 pp3 ll3 ww3 e3
        unfold WX10_lines_100
        rintro _ rfl
        rw [nI_1]
        exact ih (k + 1) _ _ _ _ _ _ _ _ _ _ _ _ _ _ _ _ _ _ _ _ _ _ _ _ _ _ _ (by omega) (by omega) e3 hch'
      refine hh k (by omega) tc' ce1 cin1 an hch' hcc _ (fun fh nh rb s1 s2 s3 s4 b p l w nh2 rb2 bb2 pp2 ll2 ww2 nh3 rb3 bb3 pp3 ll3 ww3 gd => br_f (by decide) (f100 _ _ _ _ _ _ _ _ _ _ _ _ _ _ _ _ _ _ _ _ _ _ _ _ (by rw [liS_y gd]; exact h3'))) (fun fh nh rb s1 s2 s3 s4 b p l w nh2 rb2 bb2 pp2 ll2 ww2 nh3 rb3 bb3 pp3 ll3 ww3 gd => br_t rfl ?_) _ _ _ _ _ _ _ _ _ _ _ _ _ _ _ _ _ _ _ _ _ _ _
      rintro _ rfl
      exact f100 _ _ _ _ _ _ _ _ _ _ _ _ _ _ _ _ _ _ _ _ _ _ _ _ (by rw [liS_n gd, h3'])
set_option maxHeartbeats 4000000 in
theorem S_c16 {L : Nat} {xs : Fn} {x3 : Int32} {I F G ce cin} {K : KT} (hi : INV I F G ce cin) (v1 : vp_in (x3 + 1) L) (hK : ∀ I F G ce cin, INV I F G ce cin → K I F G ce cin) : WL_c16 L xs x3 I F G ce cin K := by
  obtain ⟨R, P, S, O, H, C, N, V, ad, ⟨q1, q2, q3, q4, q5, q6, q7⟩, ⟨p1, p2, p3, p4, p5, p6, p7⟩, ⟨b1, b2, b3, b4, b5, b6, b7, b8⟩, hR, hZ, hN, hV, hH⟩ := NOW hi.1
  obtain ⟨m1, m2, m3, m4⟩ := hi.2.2.1
  unfold WL_c16 WX10_lines
  generalize xs (x3 + 1).toNatClampNeg = x
  rw [q1, q2, q3, q5, q6]
  refine ⟨v1, ?_⟩
  have hT : ∀ r, r < R → F 3 r = -1 ∨ ∃ c, c < C ∧ F 3 r = nI c := fun r hr => by rw [(hR r hr).1.2.2.2.2.2]; exact (hR r hr).2.2.2.2
  have hT' : ∀ r, r < R → F 55 (145 + r) = -1 ∨ ∃ c, c < C ∧ F 55 (145 + r) = nI c := fun r hr => (hR r hr).2.2.2.2
  have had : ∀ q, q < C → cin (ad q) ∧ ct_number (ce (ad q)) = nI q := fun q hq => ⟨(hV q hq).2.1, (hV q hq).2.2.2.2.2.2⟩
  have hVc : ∀ q, q < C → cin (ad q) ∧ picC (V q) (ce (ad q)) := fun q hq => ⟨(hV q hq).2.1, (hV q hq).2.2.2.2.2.1⟩
  have hok : 1 ≤ R → ∀ W, okH R C (fun r => F 55 (145 + r)) W → okR (rvM (F 55) R 0 0 false (fun r => F 55 (145 + r)) W) := fun z W hW => rvM_ok z b1 b7 (fun r hr => (hR r hr).2.2.1) (by decide) hW
  have hσ : ∀ W, okS (rvM (F 55) R 0 0 false (fun r => F 55 (145 + r)) W) (stM (F 55) H) 900 := fun W => stM_ok rfl b6 hR
  have hbk : ∀ (tb tm : Fn) (W : Nat → CV), (∀ k, k < 3 → tb k = F 1 k ∧ tm k = F 2 k) → ∀ r, r < R → tb r = rB (rvM (F 55) R 0 0 false (fun r => F 55 (145 + r)) W) r := fun tb tm W g1 r hr => by rw [(g1 r (by omega)).1, (hR r hr).1.2.1, rB_0 (hR r hr).2.2.1.2]
  have hu : ((0 : Int32) = 0 ↔ false = false) := ⟨fun _ => rfl, fun _ => rfl⟩
  refine C_cardOf b7 (fun d => ⟨fun _ => ⟨v1, ?_⟩, fun a z => by cases z⟩) (fun c hc e => ⟨fun z => (by rw [(hV c hc).1] at z; cases z), fun a ha => ?_⟩)
  · unfold WX11_lines
    exact M_isCard p6 b7 (fun _ => br_t rfl (same_K rfl (hK _ _ _ _ _ hi))) (fun j hj e => (no_reach (by omega) hj e d).elim)
  obtain rfl : ad c = a := by rw [(hV c hc).1] at ha; exact Option.some.inj ha
  subst e
  refine C_isRiver b1 (fun z => br_t rfl ⟨v1, ?_⟩) (fun z => br_f (by decide) ?_)
  · unfold WX11_lines
    exact M_isCard p6 b7 (fun w => (no_reach (by omega) hc rfl w).elim) (fun _ _ _ => br_f (by decide) (M_isRiver p1 b1 (fun _ => br_t rfl (same_K rfl (hK _ _ _ _ _ hi))) (fun z2 => absurd z2 (by omega))))
  obtain ⟨-, -, pm, pv, pl, pc, pn⟩ := hV c hc
  have n6 := pv.1.2
  obtain ⟨good, eg⟩ : ∃ good : Nat → Prop, good = fun k => Safe (rvM (F 55) R 0 0 false (fun r => F 55 (145 + r)) (vSet V c (setL (V c) k))) P (stM (F 55) H) S := ⟨_, rfl⟩
  obtain ⟨good0, eg0⟩ : ∃ good0 : Prop, good0 = Safe (rvM (F 55) R 0 0 false (fun r => F 55 (145 + r)) V) P (stM (F 55) H) S := ⟨_, rfl⟩
  have hvk : ∀ k, k < vN (V c) → okV (setL (V c) k) := fun k hk => okV_L pv hk
  have hp : ∀ k, ∀ q, q < C → picM (F 55) q (vSet V c (setL (V c) k) q) ∧ leftM q (vSet V c (setL (V c) k) q) (nI c) (nI k) := fun k q hq => by
    by_cases e : q = c
    · subst e
      rw [vSet_s]
      exact ⟨pm, Or.inr ⟨k, rfl, rfl, rfl⟩⟩
    · rw [vSet_n e]
      exact ⟨(hV q hq).2.2.1, Or.inl ⟨(hV q hq).2.2.2.2.1, fun w => e (nI_inj (by omega) (by omega) w)⟩⟩
  -- the model
  have mo : ∀ (Q : Int32 → Int32 → Int32 → Int32 → Int32 → Int32 → Int32 → Int32 → Fn → Fn → Fn → Fn → Fn → Prop), (good0 → ∀ h ll o d fh fr lv bo wy nx tr, Q (liS good (vN (V c))) h (-1) ll o d fh fr lv bo wy nx tr) → (¬ good0 → ∀ h ll o d fh fr lv bo wy nx tr, Q 0 h (-1) ll o d fh fr lv bo wy nx tr) → WX11_lines (nI c) (I 66) 0 (-1) (I 69) 0 0 (I 72) (I 73) (I 74) (I 75) (F 55) (F 60) (F 61) (F 62) (F 63) (F 64) Q := by
    intro Q hQ1 hQ0
    refine M_lines (good0 := good0) (good := good) p1 b1 z p6 b7 hc pm.2.2.1 n6 (fun Q hq1 hq0 h o d fh fr lv bo wy nx tr => ?_) (fun k hk Q hq1 hq0 h o d fh fr lv bo wy nx tr => ?_) hQ1 hQ0 _ _ _ _ _ _ _ _ _ _
    · refine M_hold (MWr_of p1 b1 b7 hu hH (fun c hc => ⟨(hV c hc).2.2.1, left0 (by omega) (hV c hc).2.2.2.2.1⟩)) (hok z _ hH) (hσ _) (stM_MS p5) p3 (by omega) p2 b2 (fun r' a1 a2 a3 a4 a5 f1 f2 f3 f4 f5 hr' => ?_) _ _ _ _ _ _ _ _ _ _
      subst eg0
      rcases hr' with ⟨rfl, -, hs⟩ | ⟨rfl, n, row, hf, -⟩
      · exact hq1 _ _ _ _ _ _ _ _ _ _ hs
      · exact hq0 _ _ _ _ _ _ _ _ _ _ (fun hs => Fst_safe hf hs)
    · refine M_hold (MWr_of2 p1 b1 b7 hu (okH_set hH (hvk k hk)) (hp k) (fun _ _ => rfl) (fun _ _ => rfl) (fun _ _ => rfl)) (hok z _ (okH_set hH (hvk k hk))) (hσ _) (stM_MS p5) p3 (by omega) p2 b2 (fun r' a1 a2 a3 a4 a5 f1 f2 f3 f4 f5 hr' => ?_) _ _ _ _ _ _ _ _ _ _
      subst eg
      rcases hr' with ⟨rfl, -, hs⟩ | ⟨rfl, n, row, hf, -⟩
      · exact hq1 _ _ _ _ _ _ _ _ _ _ hs
      · exact hq0 _ _ _ _ _ _ _ _ _ _ (fun hs => Fst_safe hf hs)
  rw [m1, m2, m3, m4]
  -- the program
  refine C_begin b1 b7 hT (fun c hc => ⟨ad c, (hV c hc).1, (hV c hc).2.1⟩) (fun tb tm th tl to tw sl sb sw tc g1 g2 g3 g4 => ?_) _ _ _ _ _ _ _ _ _ _ _ _ _ _ _ _ _ _
  have g3' : ∀ r, r < R → (F 55 (145 + r) = -1 → tc r = none) ∧ ∀ q, q < C → F 55 (145 + r) = nI q → tc r = some (ad q) := fun r hr => by
    obtain ⟨k1, k2⟩ := g3 r hr
    have e := (hR r hr).1.2.2.2.2.2
    exact ⟨fun h => k1 (e.trans h), fun q hq h => (k2 q hq (e.trans h)).trans (hV q hq).1⟩
  have w1 : ∀ r, r < R → sl r = F 55 (130 + r) := fun r hr => (g2 r (Nat.lt_of_lt_of_le hr b1)).1.trans (hR r hr).1.1
  have w2 : ∀ r, r < R → sb r = F 55 (139 + r) := fun r hr => (g2 r (Nat.lt_of_lt_of_le hr b1)).2.1.trans (hR r hr).1.2.2.2.1
  have w3 : ∀ r, r < R → sw r = F 55 (142 + r) := fun r hr => (g2 r (Nat.lt_of_lt_of_le hr b1)).2.2.trans (hR r hr).1.2.2.2.2.1
  refine C_isSafe (rvM (F 55) R 0 0 false (fun r => F 55 (145 + r)) V) (hok z _ hH) hu (hbk tb tm V g1) (CKr_of b1 b7 hH (fun r hr => ⟨(g3' r hr).1, fun q hq h => ⟨ad q, (g3' r hr).2 q hq h, hVc q hq⟩⟩)) (stM (F 55) H) P S (hσ _) (b3 z) b2 (by omega) w1 w2 w3 (fun r fh nh rb s1 s2 s3 s4 b p l w nh2 rb2 bb2 pp2 ll2 ww2 nh3 rb3 bb3 pp3 ll3 ww3 hsr => ?_) _ _ _ _ _ _ _ _ _ _ _ _ _ _ _ _ _ _ _ _ _ _ _
  rcases hsr with ⟨rfl, -, hs⟩ | ⟨rfl, n, row, hf, -⟩
  · have gd : good0 := by rw [eg0]; exact hs
    refine br_f (by decide) (C_lines (hg := fun r => F 55 (145 + r)) (ad := ad) (c := c) (n := vN (V c)) (good := good) (I := I) b1 b7 hc hT' had n6 pc.2.2.1 (fun k hk tc' ce1 cin1 an hch hcc Q hq1 hq0 fh nh rb s1 s2 s3 s4 b p l w nh2 rb2 bb2 pp2 ll2 ww2 nh3 rb3 bb3 pp3 ll3 ww3 => ?_) (fun tc fh nh rb s1 s2 s3 s4 b p l w nh2 rb2 bb2 pp2 ll2 ww2 nh3 rb3 bb3 pp3 ll3 ww3 => ⟨v1, mo _ (fun _ a1 a2 a3 a4 a5 a6 f1 f2 f3 f4 f5 => same_K rfl (hK _ _ _ _ _ ⟨hi.1, hi.2.1, ⟨m1, rfl, m3, m4⟩, hi.2.2.2⟩)) (fun nd => absurd gd nd)⟩) tc ce cin (CHs_0 hc had g3' g4) _ _ _ _ _ _ _ _ _ _ _ _ _ _ _ _ _ _ _ _ _ _ _)
    refine C_isSafe (rvM (F 55) R 0 0 false (fun r => F 55 (145 + r)) (vSet V c (setL (V c) k))) (hok z _ (okH_set hH (hvk k hk))) hu (hbk tb tm _ g1) (CK_change b1 b7 hH (hvk k hk) hVc hch hcc (picC_L pc)) (stM (F 55) H) P S (hσ _) (b3 z) b2 (by omega) w1 w2 w3 (fun r fh nh rb s1 s2 s3 s4 b p l w nh2 rb2 bb2 pp2 ll2 ww2 nh3 rb3 bb3 pp3 ll3 ww3 hsr => ?_) _ _ _ _ _ _ _ _ _ _ _ _ _ _ _ _ _ _ _ _ _ _ _
    subst eg
    rcases hsr with ⟨rfl, -, hs⟩ | ⟨rfl, n, row, hf, -⟩
    · exact hq1 _ _ _ _ _ _ _ _ _ _ _ _ _ _ _ _ _ _ _ _ _ _ _ hs
    · exact hq0 _ _ _ _ _ _ _ _ _ _ _ _ _ _ _ _ _ _ _ _ _ _ _ (fun hs => Fst_safe hf hs)
  · have gd : ¬ good0 := by rw [eg0]; exact fun hs => Fst_safe hf hs
    exact br_t rfl ⟨v1, mo _ (fun h => absurd h gd) (fun _ a1 a2 a3 a4 a5 a6 f1 f2 f3 f4 f5 => same_K rfl (hK _ _ _ _ _ ⟨hi.1, hi.2.1, ⟨m1, rfl, m3, m4⟩, hi.2.2.2⟩))⟩
