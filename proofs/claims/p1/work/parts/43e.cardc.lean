/-! ===== by hand: how the program reads the lines of a card ===== -/
/-- the lines that the program has put -/
def RLn (t : PS) (acc : List LN) (dg bg en : Fn) : Prop := pB t = false → ∀ k, k < acc.length → dg k = (acc.getD k (0, 0, 0)).1 ∧ bg k = nI (acc.getD k (0, 0, 0)).2.1 ∧ en k = nI (acc.getD k (0, 0, 0)).2.2
theorem getLN_l {l : List LN} {x : LN} {k : Nat} (h : k < l.length) : (l ++ [x]).getD k (0, 0, 0) = l.getD k (0, 0, 0) := by
  rw [List.getD_eq_getElem?_getD, List.getD_eq_getElem?_getD, List.getElem?_append_left h]
theorem getLN_r {l : List LN} {x : LN} : (l ++ [x]).getD l.length (0, 0, 0) = x := by
  rw [List.getD_eq_getElem?_getD, List.getElem?_append_right (Nat.le_refl _), Nat.sub_self]; rfl
set_option maxHeartbeats 400000 in
theorem C_readsCard {tp : Fn} {pt : Fn} {sz : Nat} (hT : ∀ k, k < sz → pt k = tp k) (hB : ∀ k, k < sz → ∃ b, b < 256 ∧ tp k = nI b) (hz : sz ≤ 120) {Q : Int32 → Int32 → Int32 → Int32 → Int32 → Int32 → Fn → Fn → Fn → Fn → Fn → Prop}
    (hQ : ∀ (lc sc : Int32) (tape dg bg st en : Fn), (pB (endP sz (cardP tp sz).1) = false → lc = nI (cardP tp sz).2.length ∧ RLn (cardP tp sz).1 (cardP tp sz).2 dg bg en ∧ RSt (cardP tp sz).1 sc st) → Q (fl (endP sz (cardP tp sz).1)) (nI sz) (nI (pP (cardP tp sz).1)) (fl (endP sz (cardP tp sz).1)) lc sc tape dg bg st en) (a1 a2 a3 a4 a5 : Int32) (tape dg bg st en : Fn) : WX1_reads (nI sz) pt a1 a2 a3 a4 a5 tape dg bg st en Q := by
  unfold WX1_reads WX2_begin_X1
  refine C_copy 120 (by decide) fun tape hta _ => ?_
  have e1 : (if (0 : Int32) < (if (120 : Int32) < nI sz then 120 else nI sz) then (if (120 : Int32) < nI sz then 120 else nI sz) else 0) = nI sz := by
    have e0 : ¬ (120 : Int32) < nI sz := nI_nlt (a := 120) hz (by decide)
    rw [if_neg e0]
    by_cases z : sz = 0
    · rw [z]; rfl
    · have e00 : (0 : Int32) < nI sz := nI_lt (a := 0) (by omega) (by omega)
      rw [if_pos e00]
  rw [e1]
  rintro _ rfl
  have hT : ∀ k, k < sz → tape k = tp k := fun k hk => (hta k (by omega)).trans (hT k hk)
  clear hta e1
  have hgr : SF tp sz 5 tape (WX1_readEither (WX1_readSingle 8)) (grP tp sz) := by
    rw [grP_eq]
    exact C_eith hT hz (PgF_sgl tp sz 5) (C_sgl hT hB hz 5 8 (by decide) (by decide))
  have f109 : ∀ (lc sc : Int32) (dg bg st en : Fn), (pB (endP sz (cardP tp sz).1) = false → lc = nI (cardP tp sz).2.length ∧ RLn (cardP tp sz).1 (cardP tp sz).2 dg bg en ∧ RSt (cardP tp sz).1 sc st) → pP (cardP tp sz).1 ≤ sz → WX1_reads_109 (nI sz) pt (nI sz) (nI (pP (cardP tp sz).1)) (fl (cardP tp sz).1) lc sc tape dg bg st en Q := by
    intro lc sc dg bg st en h hp
    unfold WX1_reads_109 WX2_faultPlace_X1
    exact C_needsEnd_X1 hp hz (hQ lc sc tape dg bg st en h)
  suffices g : ∀ (n m : Nat) (t : PS) (acc : List LN) (sc lc : Int32) (dg bg st en : Fn), acc.length + (m + 1) = 6 → m + 2 < n → pP t ≤ sz → (pB t = false → (pL t).length ≤ pP t) → RSt t sc st → RLn t acc dg bg en → lnsP tp sz (m + 1) t acc = cardP tp sz → WX1_reads_19 (nI sz) pt Q n 1 (nI acc.length) (nI sz) (nI (pP t)) (fl t) lc sc tape dg bg st en from
    ⟨10, g 10 5 (0, false, []) [] 0 0 dg bg st en rfl (by decide) (Nat.zero_le _) (fun _ => Nat.le_refl _) (fun _ => ⟨rfl, fun k h => absurd h (Nat.not_lt_zero k)⟩) (fun _ k h => absurd h (Nat.not_lt_zero k)) rfl⟩
  intro n
  induction n with
  | zero => intro m t acc sc lc dg bg st en h1 h2; omega
  | succ n ih =>
    intro m t acc sc lc dg bg st en h1 h2 hp hl hs hr hc
    unfold WX1_reads_19
    have hi6 : acc.length < 6 := by omega
    have v6 : vp_in (nI acc.length) 6 := vp_in_nI hi6 (by decide)
    obtain ⟨⟨l1, l2, l3⟩, l4, l5, l6, l7⟩ := lnP_ok (tp := tp) hp hl
    obtain ⟨a1, a2, a3, a4, a5⟩ := dgP_mono (tp := tp) (sz := sz) (lo := 0) (hi := 3) (t := t) (by decide) hp
    refine br_f (nI_ge (b := 6) hi6 (by decide)) (br_f (by decide) (C_digit_X1 (lo := 0) (hi := 3) hT hB hz (by decide) (by decide) hp fun r hr0 => ⟨v6, ?_⟩))
    refine C_needsAll_X1 (z := 4) hT hz (by decide) ifc a2 ⟨v6, ?_⟩
    have hsA : RSt (lnA tp sz t) sc st := by
      intro b
      rw [l3]; exact hs (l2 b).1
    refine hgr (lnA tp sz t) sc st _ l1 (fun b => (l2 b).2) hsA fun sc' st' hs' => ⟨v6, ?_⟩
    replace hs' : RSt (lnP tp sz t) sc' st' := hs'
    show ∀ y21 : Int32, y21 = nI acc.length + 1 → _
    rintro _ rfl
    rw [nI_1, nI_clamp (by omega)]
    have hr' : RLn (lnP tp sz t) (acc ++ [lnX tp sz t]) (upd dg acc.length r) (upd bg acc.length sc) (upd en acc.length sc') := by
      intro b k hk
      obtain ⟨c1, -⟩ := l7 b
      obtain ⟨c2, -⟩ := l2 c1
      have hd : pB (dgP tp sz 0 3 t).2 = false := by
        cases z : pB (dgP tp sz 0 3 t).2 with
        | false => rfl
        | true =>
          have := (nds_mono (tp := tp) [32, 105, 102, 32] ifc a2).2.2.2 z
          have c1 : pB (nds tp sz [32, 105, 102, 32] (dgP tp sz 0 3 t).2) = false := c1
          rw [this, z] at c1; cases c1
      rw [List.length_append] at hk
      replace hk : k < acc.length + 1 := hk
      by_cases c : k = acc.length
      · subst c
        rw [pk_us, pk_us, pk_us, getLN_r]
        refine ⟨hr0 hd, ?_, ?_⟩
        · rw [(hs c2).1]; show _ = nI (pL (lnA tp sz t)).length; rw [l3]
        · exact (hs' b).1
      · rw [pk_un c, pk_un c, pk_un c, getLN_l (by omega)]
        exact hr c2 k (by omega)
    have el : nI (acc.length + 1) = nI (acc ++ [lnX tp sz t]).length := by rw [List.length_append]; rfl
    unfold lnsP at hc
    -- the last line
    have fin0 : lnsP tp sz (m + 1) t acc = (lnP tp sz t, acc ++ [lnX tp sz t]) → ∀ n', WX1_reads_101 (nI sz) pt (nI acc.length) (nI sz) (nI (pP (lnP tp sz t))) (fl (lnP tp sz t)) (nI (acc.length + 1)) sc' tape (upd dg acc.length r) (upd bg acc.length sc) st' (upd en acc.length sc') Q (WX1_reads_19 (nI sz) pt Q (n' + 1)) := by
      intro e n'
      have e2 : cardP tp sz = (lnP tp sz t, acc ++ [lnX tp sz t]) := by
        rw [← hc]; exact e
      unfold WX1_reads_101 WX1_reads_102
      rintro _ rfl
      have f := f109 (nI (acc.length + 1)) sc' (upd dg acc.length r) (upd bg acc.length sc) st' (upd en acc.length sc')
      rw [e2] at f
      have f := f (fun _ => ⟨el, hr', hs'⟩) l5
      unfold WX1_reads_19
      exact br_c (fun _ => f) (fun _ => br_t rfl f)
    obtain ⟨n', rfl⟩ : ∃ n', n = n' + 1 := ⟨n - 1, by omega⟩
    by_cases cm : m = 0
    · refine br_t (nI_le (a := 6) (by omega) (by omega)) (fin0 ?_ n')
      unfold lnsP
      rw [if_neg (fun z => z.1 cm)]
    · refine br_f (nI_ge (b := 6) (by omega) (by decide)) (C_takes_X1 (t := lnP tp sz t) hT hz l5 (fun e => br_f (by decide) ?_) (fun e => br_t rfl (fin0 ?_ n')))
      · have nn := nx_in (tp := tp) (sz := sz) (t := lnP tp sz t) (by rw [e]; decide)
        rw [if_pos ⟨cm, e⟩] at hc
        unfold WX1_reads_102
        rintro _ rfl
        rw [nI_1, el]
        obtain ⟨m, rfl⟩ : ∃ m', m = m' + 1 := ⟨m - 1, by omega⟩
        have fe0 : fl (lnP tp sz t) = fl (adv (lnP tp sz t)) := by rw [fl_f nn.1, fl_f (t := adv (lnP tp sz t)) nn.1]
        have fe : fl (grP tp sz (lnA tp sz t)) = fl (adv (lnP tp sz t)) := fe0
        rw [fe]
        have hlen : (pL (lnP tp sz t)).length < pP (lnP tp sz t) := (l7 nn.1).2.1
        refine ih m (adv (lnP tp sz t)) (acc ++ [lnX tp sz t]) sc' _ _ _ _ _ (by rw [List.length_append]; simp only [List.length_cons, List.length_nil]; omega) (by omega) nn.2 (fun _ => ?_) hs' hr' hc
        show (pL (lnP tp sz t)).length ≤ pP (lnP tp sz t) + 1
        omega
      · unfold lnsP
        rw [if_neg (fun z => e z.2)]
