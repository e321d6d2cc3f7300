/-! ===== by hand: a trial begins ===== -/
theorem C_begin {R C : Nat} (hR : R ≤ 3) (hC : C ≤ 8) {nsp nsu nod nho : Int32} {nb nm nh nl no nw : Fn} {pc : Nat → Option Nat} {ce : Nat → CT} {cin : Nat → Prop} (hh : ∀ r, r < R → nh r = -1 ∨ ∃ c, c < C ∧ nh r = nI c) (hc : ∀ c, c < C → ∃ a, pc c = some a ∧ cin a) {Q : Int32 → Int32 → Int32 → Int32 → Int32 → Int32 → Fn → Fn → Fn → Int32 → Fn → Fn → Fn → Int32 → Fn → Fn → Fn → (Nat → Option Nat) → Prop}
    (hQ : ∀ (tb tm th tl to tw sl sb sw : Fn) (tc : Nat → Option Nat), (∀ k, k < 3 → tb k = nb k ∧ tm k = nm k) → (∀ k, k < 3 → sl k = nl k ∧ sb k = no k ∧ sw k = nw k) → (∀ r, r < R → (nh r = -1 → tc r = none) ∧ ∀ c, c < C → nh r = nI c → tc r = pc c) → (∀ r, R ≤ r → r < 3 → tc r = none) → Q 0 0 (nI R) nsp nsu nod tb tm th nho tl to tw nho sl sb sw tc)
    (a1 a2 a3 a4 a5 a6 a7 a8 : Int32) (tb tm th tl to tw sl sb sw : Fn) (tc : Nat → Option Nat) : WX7_begin a1 a2 a3 a4 a5 a6 (nI C) (nI R) nsp nsu nod nb tb nm tm nh th a7 nho nl tl no to nw tw a8 sl sb sw tc pc ce cin Q := by
  unfold WX7_begin WX3_becomes WX8_becomes
  refine C_copy 3 (by decide) fun tb h1 _ => C_copy 3 (by decide) fun tm h2 _ => C_copy 3 (by decide) fun th h3 _ => C_copy 3 (by decide) fun tl h4 _ => C_copy 3 (by decide) fun to h5 _ => C_copy 3 (by decide) fun tw h6 _ => ?_
  suffices g : ∀ (n i : Nat) (tc : Nat → Option Nat), i ≤ 3 → 3 < n + i → (∀ r, r < i → (r < R → (nh r = -1 → tc r = none) ∧ ∀ c, c < C → nh r = nI c → tc r = pc c) ∧ (R ≤ r → tc r = none)) → WX7_begin_13 (nI C) (nI R) nsp nsu nod nb nm nh nho nl no nw pc ce cin Q n (nI i) a1 a2 (nI R) nsp nsu nod tb tm th nho tl to tw a8 sl sb sw tc from ⟨4, g 4 0 tc (by decide) (by decide) (fun r h => absurd h (Nat.not_lt_zero r))⟩
  intro n
  induction n with
  | zero => intro i tc h1 h2; omega
  | succ n ih =>
    intro i tc hi hn ht
    unfold WX7_begin_13
    by_cases c3 : 3 ≤ i
    · have e3 : i = 3 := by omega
      subst e3
      refine br_t (nI_le (a := 3) c3 (by decide)) ?_
      unfold WX7_begin_58 WX8_becomes
      refine C_copy 3 (by decide) fun sl g1 _ => C_copy 3 (by decide) fun sb g2 _ => C_copy 3 (by decide) fun sw g3 _ => ?_
      exact hQ _ _ _ _ _ _ _ _ _ _ (fun k hk => ⟨h1 k hk, h2 k hk⟩) (fun k hk => ⟨(g1 k hk).trans (h4 k hk), (g2 k hk).trans (h5 k hk), (g3 k hk).trans (h6 k hk)⟩) (fun r hr => (ht r (by omega)).1 hr) (fun r h1 h2 => (ht r h2).2 h1)
    refine br_f (nI_ge (b := 3) (by omega) (by decide)) ?_
    have v3 : vp_in (nI i) 3 := vp_in_nI (by omega) (by decide)
    have put : ∀ o, ((i < R → (nh i = -1 → o = none) ∧ ∀ c, c < C → nh i = nI c → o = pc c) ∧ (R ≤ i → o = none)) → WX7_begin_13 (nI C) (nI R) nsp nsu nod nb nm nh nho nl no nw pc ce cin Q n (nI (i + 1)) a1 a2 (nI R) nsp nsu nod tb tm th nho tl to tw a8 sl sb sw (va_up tc i o) := by
      intro o ho
      refine ih (i + 1) _ (by omega) (by omega) (fun r hr => ?_)
      by_cases cr : r = i
      · subst cr
        have : va_up tc r o r = o := by unfold va_up; rw [if_pos rfl]
        rw [this]; exact ho
      · have : va_up tc i o r = tc r := by unfold va_up; rw [if_neg cr]
        rw [this]; exact ht r (by omega)
    by_cases cR : R ≤ i
    · refine br_t (nI_le cR (by omega)) ?_
      unfold WX7_begin_51
      refine ⟨v3, ?_⟩
      rw [nI_1, nI_clamp (by omega)]
      rintro _ rfl
      exact put none ⟨fun h => absurd h (by omega), fun _ => rfl⟩
    · refine br_f (nI_ge (by omega) (by omega)) ⟨v3, ?_⟩
      rw [nI_clamp (by omega), h3 i (by omega)]
      have f : ∀ o, (nh i = -1 → o = none) → (∀ c, c < C → nh i = nI c → o = pc c) → (∀ a, o = some a → cin a) → WX7_begin_51_2 (nI C) (nI R) nsp nsu nod nb nm nh nho nl no nw pc ce cin (nI i) (nI i) o a1 a2 (nI R) nsp nsu nod tb tm th nho tl to tw a8 sl sb sw tc Q (WX7_begin_13 (nI C) (nI R) nsp nsu nod nb nm nh nho nl no nw pc ce cin Q n) := by
        intro o o1 o2 o3
        unfold WX7_begin_51_2
        rw [nI_1, nI_clamp (by omega)]
        refine ⟨fun e => ⟨v3, ?_⟩, fun a e => ⟨v3, o3 a e, ?_⟩⟩
        · rintro _ rfl
          have := put o ⟨fun _ => ⟨o1, o2⟩, fun h => absurd h cR⟩
          rwa [e] at this
        · rintro _ rfl
          have := put o ⟨fun _ => ⟨o1, o2⟩, fun h => absurd h cR⟩
          rwa [e] at this
      refine C_cardOf hC (fun c => f none (fun _ => rfl) (fun q hq e => (no_reach (by omega) hq e c).elim) (fun a z => by cases z)) (fun j hj e => f _ (fun z => ?_) (fun q hq e' => ?_) (fun a z => ?_))
      · rw [z] at e; have := nI_pos (n := j) (by omega); rw [← e] at this; exact absurd (by decide) this
      · have : q = j := nI_inj (by omega) (by omega) (e'.symm.trans e)
        rw [this]
      · obtain ⟨b, b1, b2⟩ := hc j hj
        rw [b1] at z
        rw [← Option.some.inj z]; exact b2
theorem pickV {s : Fn} {C : Nat} {cards ce cin} (hC : okC s C cards ce cin) : ∃ (V : Nat → CV) (ad : Nat → Nat), ∀ c, c < C → cards c = some (ad c) ∧ cin (ad c) ∧ picM s c (V c) ∧ okV (V c) ∧ vLeft (V c) = none ∧ picC (V c) (ce (ad c)) ∧ ct_number (ce (ad c)) = nI c := by
  have h : ∀ c, ∃ va : CV × Nat, c < C → cards c = some va.2 ∧ cin va.2 ∧ picM s c va.1 ∧ okV va.1 ∧ vLeft va.1 = none ∧ picC va.1 (ce va.2) ∧ ct_number (ce va.2) = nI c := by
    intro c
    by_cases hc : c < C
    · obtain ⟨a, v, a1, a2, a3, a4, a5, a6, a7, -⟩ := hC.1 c hc
      exact ⟨(v, a), fun _ => ⟨a1, a2, a3, a4, a5, a6, a7⟩⟩
    · exact ⟨((0, 0, 0, none, fun _ => 0, fun _ => 0, fun _ => 0, fun _ => 0), 0), fun z => absurd z hc⟩
  obtain ⟨f, hf⟩ := Classical.axiomOfChoice h
  exact ⟨fun c => (f c).1, fun c => (f c).2, hf⟩
/-- a river of the model's row: who stays, how much higher the banks, is the bell silent, who is hung, the cards -/
def rvM (s : Fn) (R : Nat) (st hi : Int32) (mu : Bool) (hg : Fn) (V : Nat → CV) : RV := (R, fun r => if s (133 + r) + hi ≤ 9 then s (133 + r) + hi else 9, fun r => s (136 + r), mu, fun r lv h wy bl w => if hg r = -1 ∨ ((st >>> (nI r &&& 31)) &&& 1) = 1 then w else kpr (V (hg r).toNatClampNeg) lv h.toNatClampNeg wy bl w)
/-- the hung cards can be -/
def okH (R C : Nat) (hg : Fn) (V : Nat → CV) : Prop := ∀ r, r < R → hg r = -1 ∨ ∃ c, c < C ∧ hg r = nI c ∧ okV (V c)
theorem rvM_ok {s : Fn} {R C : Nat} {st hi : Int32} {mu : Bool} {hg : Fn} {V : Nat → CV} (h1 : 1 ≤ R) (h3 : R ≤ 3) (hC : C ≤ 8) (hb : ∀ r, r < R → 0 ≤ s (133 + r) ∧ s (133 + r) ≤ 9) (hhi : 0 ≤ hi ∧ hi ≤ 9) (hh : okH R C hg V) : okR (rvM s R st hi mu hg V) := by
  refine ⟨h1, h3, fun r hr => ⟨?_, fun lv h wy bl w h0 h3 => ?_⟩⟩
  · have := hb r hr
    show 0 ≤ (if s (133 + r) + hi ≤ 9 then s (133 + r) + hi else 9) ∧ (if s (133 + r) + hi ≤ 9 then s (133 + r) + hi else 9) ≤ 9
    grind
  · show 0 ≤ (if hg r = -1 ∨ ((st >>> (nI r &&& 31)) &&& 1) = 1 then w else kpr (V (hg r).toNatClampNeg) lv (nI h).toNatClampNeg wy bl w) ∧ (if hg r = -1 ∨ ((st >>> (nI r &&& 31)) &&& 1) = 1 then w else kpr (V (hg r).toNatClampNeg) lv (nI h).toNatClampNeg wy bl w) ≤ 3
    by_cases c : hg r = -1 ∨ ((st >>> (nI r &&& 31)) &&& 1) = 1
    · rw [if_pos c]; exact ⟨h0, h3⟩
    · rw [if_neg c]
      rcases hh r hr with h | ⟨q, q1, q2, q3⟩
      · exact absurd (Or.inl h) c
      · rw [q2, nI_clamp (by omega)]
        exact kpr_ok q3 _ _ _ _ _ h0 h3
theorem MWr_of {s : Fn} {R C : Nat} {st hi lc ll mu : Int32} {m : Bool} {V : Nat → CV} (hs : s 0 = nI R) (h3 : R ≤ 3) (hC : C ≤ 8) (hmu : mu = 0 ↔ m = false) (hh : okH R C (fun r => s (145 + r)) V) (hp : ∀ c, c < C → picM s c (V c) ∧ leftM c (V c) lc ll) : MWr (rvM s R st hi m (fun r => s (145 + r)) V) s st lc ll mu hi := by
  refine ⟨hs, hmu, fun r hr => ⟨rfl, rfl, ?_⟩⟩
  replace hr : r < R := hr
  by_cases c : s (145 + r) = -1 ∨ ((st >>> (nI r &&& 31)) &&& 1) = 1
  · exact Or.inl ⟨c, fun lv h wy bl w => if_pos c⟩
  · rcases hh r hr with h | ⟨q, q1, q2, q3⟩
    · exact absurd (Or.inl h) c
    · replace q2 : s (145 + r) = nI q := q2
      refine Or.inr ⟨q, V q, q2, fun z => c (Or.inr z), by omega, (hp q q1).1, q3, (hp q q1).2, fun lv h wy bl w ht => ?_⟩
      show (if s (145 + r) = -1 ∨ ((st >>> (nI r &&& 31)) &&& 1) = 1 then w else kpr (V (s (145 + r)).toNatClampNeg) lv (nI h).toNatClampNeg wy bl w) = _
      rw [if_neg c, q2, nI_clamp (by omega), nI_clamp (by omega)]
theorem CKr_of {s : Fn} {R C : Nat} {st hi : Int32} {m : Bool} {hg : Fn} {V : Nat → CV} {tc : Nat → Option Nat} {ce : Nat → CT} {cin : Nat → Prop} (h3 : R ≤ 3) (hC : C ≤ 8) (hh : okH R C hg V) (hc : ∀ r, r < R → (hg r = -1 → tc r = none) ∧ ∀ c, c < C → hg r = nI c → ∃ a, tc r = some a ∧ cin a ∧ picC (V c) (ce a)) : CKr (rvM s R st hi m hg V) st tc ce cin := by
  intro r hr
  replace hr : r < R := hr
  obtain ⟨c1, c2⟩ := hc r hr
  rcases hh r hr with h | ⟨q, q1, q2, q3⟩
  · refine ⟨fun _ lv h' wy bl w => if_pos (Or.inl h), fun a ha => ?_⟩
    rw [c1 h] at ha; cases ha
  · obtain ⟨a, a1, a2, a3⟩ := c2 q q1 q2
    refine ⟨fun z => (by rw [a1] at z; cases z), fun b hb => ?_⟩
    have : b = a := by rw [a1] at hb; exact (Option.some.inj hb).symm
    subst this
    have n1 : ¬ hg r = -1 := by rw [q2]; have := nI_pos (n := q) (by omega); grind
    refine ⟨fun z => ⟨a2, fun lv h wy bl w Q ht h0 h3 hq => ?_⟩, fun z lv h wy bl w => ?_⟩
    · have e : rK (rvM s R st hi m hg V) r lv (nI h) wy bl w = kpr (V q) lv h wy bl w := by
        show (if hg r = -1 ∨ ((st >>> (nI r &&& 31)) &&& 1) = 1 then w else kpr (V (hg r).toNatClampNeg) lv (nI h).toNatClampNeg wy bl w) = _
        rw [if_neg (by rintro (h | h); exact n1 h; rw [h] at z; exact absurd z (by decide)), q2, nI_clamp (by omega), nI_clamp (by omega)]
      rw [e] at hq
      exact C_boardsBy a3 q3 ht h0 h3 hq
    · show (if hg r = -1 ∨ ((st >>> (nI r &&& 31)) &&& 1) = 1 then w else kpr (V (hg r).toNatClampNeg) lv h.toNatClampNeg wy bl w) = _
      rw [if_pos]
      exact Or.inr ((and1 _).resolve_left z)
/-- where a trial starts -/
def stM (s : Fn) (H : Nat) : St := (fun r => s (130 + r), fun r => s (139 + r), fun r => s (142 + r), H)
theorem stM_ok {s : Fn} {R H : Nat} {ρ : RV} (hρ : rR ρ = R) (hH : H ≤ 99) {bank mill hung lev boa way : Fn} {C : Nat} (hR : okR3 s bank mill hung lev boa way R C) : okS ρ (stM s H) 900 := by
  refine ⟨by show H < 900; omega, fun r hr => ?_⟩
  rw [hρ] at hr
  obtain ⟨-, h1, h2, h3, -⟩ := hR r hr
  show (0 ≤ s (130 + r) ∧ s (130 + r) ≤ 9) ∧ 0 ≤ s (139 + r) ∧ s (139 + r) ≤ 3
  exact ⟨⟨h1.1, by grind⟩, h3⟩
theorem stM_MS {s : Fn} {H : Nat} (h : s 4 = nI H) : MS s (stM s H) := ⟨h, fun r _ => ⟨rfl, rfl, rfl⟩⟩
