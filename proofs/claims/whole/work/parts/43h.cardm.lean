/-! ===== by hand: how the model reads the lines of a card ===== -/
/-- rows that the reading of card c may change -/
def reg (c k : Nat) : Prop := k = 174 + c ∨ k = 326 + c ∨ (182 + 6 * c ≤ k ∧ k < 188 + 6 * c) ∨ (230 + 6 * c ≤ k ∧ k < 236 + 6 * c) ∨ (278 + 6 * c ≤ k ∧ k < 284 + 6 * c) ∨ (334 + 140 * c ≤ k ∧ k < 474 + 140 * c)
def RLk (c : Nat) (s0 : Fn) (t : PS) (acc : List LN) (s : Fn) : Prop := (∀ k, ¬ reg c k → s k = s0 k) ∧ (pB t = false → s (326 + c) = nI (pL t).length ∧ (∀ k, k < (pL t).length → s (334 + 140 * c + k) = (pL t).getD k 0) ∧ s (174 + c) = nI acc.length ∧ ∀ k, k < acc.length → s (182 + 6 * c + k) = (acc.getD k (0, 0, 0)).1 ∧ s (230 + (6 * c + k)) = nI (acc.getD k (0, 0, 0)).2.1 ∧ s (278 + (6 * c + k)) = nI (acc.getD k (0, 0, 0)).2.2)
theorem dgP_b {tp : Fn} {sz : Nat} {t : PS} (hp : pP t ≤ sz) (h : pB (lnA tp sz t) = false) : pB (dgP tp sz 0 3 t).2 = false := by
  obtain ⟨a1, a2, a3, a4, a5⟩ := dgP_mono (tp := tp) (sz := sz) (lo := 0) (hi := 3) (t := t) (by decide) hp
  cases z : pB (dgP tp sz 0 3 t).2 with
  | false => rfl
  | true =>
    have := (nds_mono (tp := tp) [32, 105, 102, 32] ifc a2).2.2.2 z
    have h2 : pB (nds tp sz [32, 105, 102, 32] (dgP tp sz 0 3 t).2) = false := h
    rw [this, z] at h2; cases h2
theorem M_lineGen {tp : Fn} {sz c : Nat} {s0 s : Fn} (hc : c < 8) (hT : ∀ k, k < sz → s0 (10 + k) = tp k) (hz : sz ≤ 120) {t d a u : PS} {dv : Int32} {acc : List LN} (hb : pB t = false) (hl : (pL t).length ≤ pP t) (ht : pP t ≤ sz) (ha : acc.length < 6) (hs : RLk c s0 t acc s)
    (l1 : pP a ≤ sz) (l2 : pB a = false → pB t = false ∧ (pL a).length < pP a) (l3 : pL a = pL t) (l5 : pP u ≤ sz) (l7 : pB u = false → pB a = false ∧ (pL u).length < pP u)
    (G1 : ∀ Q' : Int32 → Int32 → Int32 → Prop, Q' dv (nI (pP d)) (b01 (pB d)) → WX11_figure 0 3 (nI (pP t)) (nI sz) 0 s Q')
    (G2 : ∀ s' : Fn, (∀ k, k < sz → s' (10 + k) = tp k) → ∀ Q' : Int32 → Int32 → Prop, Q' (nI (pP a)) (b01 (pB a)) → WX11_spells 4 (nI (pP d)) (nI sz) (b01 (pB d)) s' Q')
    (G3 : ∀ s1 : Fn, (∀ k, k < sz → s1 (10 + k) = tp k) → ∀ Q' : Int32 → Int32 → Int32 → Fn → Prop, RM c s1 a s1 → (∀ s', RM c s1 u s' → Q' (nI (pP u)) (b01 (pB u)) 0 s') → WX11_some (WX11_factor 8) (nI c) (nI (pP a)) (nI sz) (b01 (pB a)) 0 s1 Q')
    {Q : Int32 → Int32 → Int32 → Fn → Prop} (hq : ∀ s', RLk c s0 u (acc ++ [(dv, (pL a).length, (pL u).length)]) s' → Q (nI (pP u)) (b01 (pB u)) 0 s') : WX11_lineHere (nI c) (nI (pP t)) (nI sz) 0 0 s Q := by
  obtain ⟨r1, r2⟩ := hs
  obtain ⟨r3, r4, r5, r6⟩ := r2 hb
  have hlen : (pL t).length ≤ 120 := by omega
  have hTs : ∀ k, k < sz → s (10 + k) = tp k := fun k hk => (r1 (10 + k) (by unfold reg; omega)).trans (hT k hk)
  unfold WX11_lineHere
  have b1 : 174 + c < 1454 := by omega
  have b2 : 326 + c < 1454 := by omega
  have b3 : 182 + (6 * c + acc.length) < 1454 := by omega
  have b4 : 230 + (6 * c + acc.length) < 1454 := by omega
  have b5 : 278 + (6 * c + acc.length) < 1454 := by omega
  have v1 : vp_in (174 + nI c) 1454 := by rw [li_174, nI_add]; exact vp_in_nI b1 (by decide)
  have v2 : vp_in (326 + nI c) 1454 := by rw [li_326, nI_add]; exact vp_in_nI b2 (by decide)
  have c1 : (174 + nI c).toNatClampNeg = 174 + c := by rw [li_174, nI_add, nI_clamp (by omega)]
  have c2 : (326 + nI c).toNatClampNeg = 326 + c := by rw [li_326, nI_add, nI_clamp (by omega)]
  have e0 : (6 * nI c) + nI acc.length = nI (6 * c + acc.length) := by rw [li_6, pk_mul, nI_add]
  have v3 : vp_in (182 + nI (6 * c + acc.length)) 1454 := by rw [li_182, nI_add]; exact vp_in_nI b3 (by decide)
  have v4 : vp_in (230 + nI (6 * c + acc.length)) 1454 := by rw [li_230, nI_add]; exact vp_in_nI b4 (by decide)
  have v5 : vp_in (278 + nI (6 * c + acc.length)) 1454 := by rw [li_278, nI_add]; exact vp_in_nI b5 (by decide)
  have c3 : (182 + nI (6 * c + acc.length)).toNatClampNeg = 182 + (6 * c + acc.length) := by rw [li_182, nI_add, nI_clamp (by omega)]
  have c4 : (230 + nI (6 * c + acc.length)).toNatClampNeg = 230 + (6 * c + acc.length) := by rw [li_230, nI_add, nI_clamp (by omega)]
  have c5 : (278 + nI (6 * c + acc.length)).toNatClampNeg = 278 + (6 * c + acc.length) := by rw [li_278, nI_add, nI_clamp (by omega)]
  refine ⟨v1, ?_⟩
  rw [c1, r5, e0]
  rintro _ rfl
  refine G1 _ ⟨v3, ?_⟩
  rw [c3, c2, c4, c5]
  refine G2 _ (fun k hk => by rw [pk_un (by omega)]; exact hTs k hk) _ ⟨v2, ?_⟩
  rw [pk_un (by omega), r3]
  rintro _ rfl
  refine ⟨v4, ?_⟩
  have hT1 : ∀ k, k < sz → (upd (upd s (182 + (6 * c + acc.length)) dv) (230 + (6 * c + acc.length)) (nI (pL t).length)) (10 + k) = tp k := fun k hk => by rw [pk_un (by omega), pk_un (by omega)]; exact hTs k hk
  refine G3 _ hT1 _ ⟨fun k _ _ => rfl, fun b => ?_⟩ fun s' hs' => ⟨v2, ?_⟩
  · rw [l3, pk_un (by omega), pk_un (by omega), r3]
    refine ⟨rfl, fun k hk => ?_⟩
    have := (l2 b).2
    rw [l3] at this
    rw [pk_un (by omega), pk_un (by omega)]; exact r4 k hk
  rintro _ rfl
  refine ⟨v5, v1, ?_⟩
  obtain ⟨k1, k2⟩ := hs'
  have hfr : ∀ x k, ¬ reg c k → (upd (upd s' (278 + (6 * c + acc.length)) (s' (326 + c))) (174 + c) x) k = s0 k := by
    intro x k hk
    unfold reg at hk
    rw [pk_un (by omega), pk_un (by omega), k1 k (by omega) (by omega), pk_un (by omega), pk_un (by omega)]
    exact r1 k (by unfold reg; exact hk)
  rw [pk_un (by omega), show s' (174 + c) = nI acc.length by rw [k1 _ (by omega) (by omega), pk_un (by omega), pk_un (by omega)]; exact r5]
  have f120 : ∀ x, ((pB (u) = false) → x = 1) → WX11_lineHere_120 (nI c) (nI sz) (174 + nI c) (nI acc.length) x (nI (pP (u))) (b01 (pB (u))) 0 (upd s' (278 + (6 * c + acc.length)) (s' (326 + c))) Q := by
    intro x hx
    unfold WX11_lineHere_120
    rintro _ rfl
    refine ⟨v1, ?_⟩
    rw [c1]
    refine hq _ ⟨hfr _, fun b => ?_⟩
    obtain ⟨k3, k4⟩ := k2 b
    have hA := (l7 b).1
    rw [hx b, nI_1, List.length_append]
    refine ⟨by rw [pk_un (by omega), pk_un (by omega)]; exact k3, fun k hk => ?_, by rw [pk_us]; rfl, fun k hk => ?_⟩
    · have := (l7 b).2
      rw [pk_un (by omega), pk_un (by omega)]; exact k4 k hk
    · replace hk : k < acc.length + 1 := hk
      by_cases ck : k = acc.length
      · subst ck
        rw [getLN_r]
        refine ⟨?_, ?_, ?_⟩
        · rw [pk_un (by omega), pk_un (by omega), k1 _ (by omega) (by omega), pk_un (by omega), show 182 + 6 * c + acc.length = 182 + (6 * c + acc.length) by omega, pk_us]
        · rw [pk_un (by omega), pk_un (by omega), k1 _ (by omega) (by omega), pk_us]
          show _ = nI (pL a).length
          rw [l3]
        · rw [pk_un (by omega), pk_us]; exact k3
      · have hk' : k < acc.length := by omega
        obtain ⟨q1, q2, q3⟩ := r6 k hk'
        rw [getLN_l hk']
        refine ⟨?_, ?_, ?_⟩
        · rw [pk_un (by omega), pk_un (by omega), k1 _ (by omega) (by omega), pk_un (by omega), pk_un (by omega)]; exact q1
        · rw [pk_un (by omega), pk_un (by omega), k1 _ (by omega) (by omega), pk_un (by omega), pk_un (by omega)]; exact q2
        · rw [pk_un (by omega), pk_un (by omega), k1 _ (by omega) (by omega), pk_un (by omega), pk_un (by omega)]; exact q3
  cases b : pB (u) with
  | true =>
    have := f120 0 (fun z => by rw [b] at z; cases z)
    rw [b] at this
    exact br_f (by decide) this
  | false =>
    have := f120 1 (fun _ => rfl)
    rw [b] at this
    exact br_t rfl this
theorem M_lineHere {tp : Fn} {sz c : Nat} {s0 s : Fn} (hc : c < 8) (hT : ∀ k, k < sz → s0 (10 + k) = tp k) (hz : sz ≤ 120) {t : PS} {acc : List LN} (hb : pB t = false) (hp : pP t ≤ sz) (hl : (pL t).length ≤ pP t) (ha : acc.length < 6) (hs : RLk c s0 t acc s) {Q : Int32 → Int32 → Int32 → Fn → Prop} (hq : ∀ s', RLk c s0 (lnP tp sz t) (acc ++ [lnX tp sz t]) s' → Q (nI (pP (lnP tp sz t))) (b01 (pB (lnP tp sz t))) 0 s') : WX11_lineHere (nI c) (nI (pP t)) (nI sz) 0 0 s Q := by
  obtain ⟨⟨l1, l2, l3⟩, l4, l5, l6, l7⟩ := lnP_ok (tp := tp) hp (fun _ => hl)
  have a2 := (dgP_mono (tp := tp) (sz := sz) (lo := 0) (hi := 3) (t := t) (by decide) hp).2.1
  have hTs : ∀ k, k < sz → s (10 + k) = tp k := fun k hk => (hs.1 (10 + k) (by unfold reg; omega)).trans (hT k hk)
  refine M_lineGen (tp := tp) (s0 := s0) (t := t) (d := (dgP tp sz 0 3 t).2) (a := lnA tp sz t) (u := lnP tp sz t) (dv := (dgP tp sz 0 3 t).1) (acc := acc) hc hT hz hb hl hp ha hs l1 l2 l3 l5 (fun h => ⟨(l7 h).1, (l7 h).2.1⟩) (fun Q' h => ?_) (fun s' h Q' h' => ?_) (fun s1 h1 Q' h2 h3 => ?_) hq
  · have g1 := M_figure (tp := tp) (s := s) (lo := 0) (hi := 3) (t := t) hTs hz (by decide) (by decide) hp (Q := Q') h
    rw [hb] at g1
    exact g1
  · exact M_spells (z := 4) (tp := tp) (t := (dgP tp sz 0 3 t).2) h hz (by decide) ifc a2 h'
  · have hgr : SM tp sz c 5 s1 (WX11_some (WX11_factor 8)) (grP tp sz) := by
      rw [grP_eq]
      exact M_some hc h1 hz (PgF_sgl tp sz 5) (M_factor hc h1 hz 5 7 (by decide) (by decide))
    exact hgr.1 (lnA tp sz t) s1 Q' l1 (fun b => (l2 b).2) h2 h3
/-- where the lines of a card end -/
theorem lnsP_ok {tp : Fn} {sz : Nat} : ∀ (n : Nat) (t : PS) (acc : List LN), pP t ≤ sz → (pB t = false → (pL t).length ≤ pP t) → pP (lnsP tp sz n t acc).1 ≤ sz := by
  intro n
  induction n with
  | zero => intro t acc h _; exact h
  | succ n ih =>
    intro t acc h hl
    obtain ⟨-, -, l5, -, l7⟩ := lnP_ok (tp := tp) h hl
    unfold lnsP
    by_cases c : n ≠ 0 ∧ nx tp sz (lnP tp sz t) = 59
    · rw [if_pos c]
      have nn := nx_in (tp := tp) (sz := sz) (t := lnP tp sz t) (by rw [c.2]; decide)
      refine ih _ _ nn.2 (fun _ => ?_)
      have h1 := (l7 nn.1).2.1
      exact Nat.le_succ_of_le (Nat.le_of_lt h1)
    · rw [if_neg c]; exact l5
theorem cardP_le (tp : Fn) (sz : Nat) : pP (cardP tp sz).1 ≤ sz := lnsP_ok 6 _ _ (Nat.zero_le _) (fun _ => Nat.le_refl _)
theorem M_cardLoop {tp : Fn} {sz c : Nat} {s0 : Fn} (hc : c < 8) (hT : ∀ k, k < sz → s0 (10 + k) = tp k) (hz : sz ≤ 120) (h5 : s0 5 = nI c) {Q : Int32 → Int32 → Int32 → Int32 → Int32 → Int32 → Fn → Prop}
    (q0 : pB (endP sz (cardP tp sz).1) = true → ∀ a b d s', (∀ k, ¬ reg c k → s' k = s0 k) → Q (-10 - nI (pP (cardP tp sz).1)) (nI c) a (nI sz) b d s')
    (q1 : pB (endP sz (cardP tp sz).1) = false → ∀ a b d s', RLk c s0 (cardP tp sz).1 (cardP tp sz).2 s' → Q (nI c) (nI c) a (nI sz) b d (upd s' 5 (nI (c + 1)))) :
    ∀ (n m : Nat) (u : PS) (acc : List LN) (s : Fn), m < n → acc.length + m = 6 → pP u ≤ sz → (pB u = false → (pL u).length < pP u) → RLk c s0 u acc s → (@ite (PS × List LN) (m ≠ 0 ∧ nx tp sz u = 59) (Classical.propDecidable _) (lnsP tp sz m (adv u) acc) (u, acc)) = cardP tp sz → WX11_card_112 Q n (nI c) (nI (pP u)) (nI sz) (b01 (pB u)) 0 s := by
  intro n
  induction n with
  | zero => intro m u acc s h; omega
  | succ n ih =>
    intro m u acc s h1 h2 hp hl hs he
    have f163 : cardP tp sz = (u, acc) → WX11_card_163 (nI c) (nI (pP u)) (nI sz) (b01 (pB u)) 0 s Q := by
      intro e
      rw [e] at q0 q1
      unfold WX11_card_163
      unfold endP at q0 q1
      cases b : pB u with
      | true =>
        refine br_f (by decide) (q0 ?_ _ _ _ _ hs.1)
        by_cases c1 : pP u < sz
        · rw [if_pos c1]; rfl
        · rw [if_neg c1]; exact b
      | false =>
        refine br_t rfl ?_
        by_cases c1 : pP u < sz
        · refine br_f (fun z => ?_) (q0 (by rw [if_pos c1]; rfl) _ _ _ _ hs.1)
          rw [nI_eq (by omega) (by omega)] at z; omega
        · refine br_t (by congr 1; omega) ?_
          have e5 : s (5 : Int32).toNatClampNeg = nI c := (hs.1 5 (by unfold reg; omega)).trans h5
          rw [e5, nI_1]
          rintro _ rfl
          exact q1 (by rw [if_neg c1]; exact b) _ _ _ _ hs
    unfold WX11_card_112
    cases b : pB u with
    | true =>
      have f := f163 (by rw [← he, if_neg (fun z => by have := z.2; rw [nx_bad b] at this; exact absurd this (by decide))])
      rw [b] at f
      exact br_f (by decide) f
    | false =>
      obtain ⟨r1, r2⟩ := id hs
      obtain ⟨r3, r4, r5, r6⟩ := r2 b
      have b1 : 174 + c < 1454 := by omega
      have v1 : vp_in (174 + nI c) 1454 := by rw [li_174, nI_add]; exact vp_in_nI b1 (by decide)
      have c1 : (174 + nI c).toNatClampNeg = 174 + c := by rw [li_174, nI_add, nI_clamp (by omega)]
      refine br_t rfl ⟨v1, ?_⟩
      rw [c1, r5]
      by_cases cm : m = 0
      · have f := f163 (by rw [← he, if_neg (fun z => z.1 cm)])
        rw [b] at f
        exact br_t (nI_le (a := 6) (by omega) (by omega)) f
      · refine br_f (nI_ge (b := 6) (by omega) (by decide)) ?_
        have hTs : ∀ k, k < sz → s (10 + k) = tp k := fun k hk => (r1 (10 + k) (by unfold reg; omega)).trans (hT k hk)
        refine M_here hTs hz hp b (br_c (fun e => ?_) (fun e => ?_))
        · rw [if_pos ⟨cm, e⟩] at he
          have nn := nx_in (tp := tp) (sz := sz) (t := u) (by rw [e]; decide)
          obtain ⟨m, rfl⟩ : ∃ m', m = m' + 1 := ⟨m - 1, by omega⟩
          rintro _ rfl
          rw [nI_1]
          have hlu := hl b
          refine M_lineHere (t := adv u) (acc := acc) hc hT hz b nn.2 (by show (pL u).length ≤ pP u + 1; omega) (by omega) hs (fun s' hs' => ?_)
          obtain ⟨-, -, l5, -, l7⟩ := lnP_ok (tp := tp) (sz := sz) (t := adv u) nn.2 (fun _ => by show (pL u).length ≤ pP u + 1; omega)
          refine ih m _ _ s' (by omega) (by rw [List.length_append]; simp only [List.length_cons, List.length_nil]; omega) l5 (fun b => (l7 b).2.1) hs' ?_
          rw [← he]; rfl
        · have f := f163 (by rw [← he, if_neg (fun z => e z.2)])
          rw [b] at f
          exact f
