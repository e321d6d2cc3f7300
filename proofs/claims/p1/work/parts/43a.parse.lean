/-! ===== by hand: what both systems read ===== -/
/-- place, is there a fault, steps -/
abbrev PS : Type := Nat × Bool × List Int32
abbrev pP (t : PS) : Nat := t.1
abbrev pB (t : PS) : Bool := t.2.1
abbrev pL (t : PS) : List Int32 := t.2.2
noncomputable def nx (tp : Fn) (sz : Nat) (t : PS) : Int32 := @ite Int32 (pB t = false ∧ pP t < sz) (Classical.propDecidable _) (tp (pP t)) (-1)
def adv (t : PS) : PS := (pP t + 1, pB t, pL t)
def bad (t : PS) : PS := (pP t, true, pL t)
noncomputable def em (x : Int32) (t : PS) : PS := @ite PS (pB t = true) (Classical.propDecidable _) (t) ((pP t, false, pL t ++ [x]))
noncomputable def nd (tp : Fn) (sz : Nat) (c : Int32) (t : PS) : PS := @ite PS (nx tp sz t = c) (Classical.propDecidable _) (adv t) (bad t)
def ixL : List Int32 → Int32 → Option Nat
  | [], _ => none
  | c :: cs, x => if c = x then some 0 else (ixL cs x).map (· + 1)
noncomputable def dgP (tp : Fn) (sz lo hi : Nat) (t : PS) : Int32 × PS := @ite (Int32 × PS) (nI (48 + lo) ≤ nx tp sz t ∧ nx tp sz t ≤ nI (48 + hi)) (Classical.propDecidable _) ((nx tp sz t - 48, adv t)) ((0, bad t))
noncomputable def tst2 (tp : Fn) (sz w h : Nat) (t : PS) : PS := @ite PS (nI 48 ≤ nx tp sz t ∧ nx tp sz t ≤ nI 57) (Classical.propDecidable _) (em (nI (w + 4 * h + 16 * (nx tp sz t - 48).toNatClampNeg)) (adv t)) (bad t)
noncomputable def tst1 (tp : Fn) (sz w : Nat) (t : PS) : PS := match ixL [60, 61, 62] (nx tp sz t) with
  | none => bad t
  | some h => tst2 tp sz w h (adv t)
noncomputable def tstP (tp : Fn) (sz : Nat) (t : PS) : PS := match ixL [108, 104, 119, 99] (nx tp sz t) with
  | none => bad t
  | some w => tst1 tp sz w (adv t)
noncomputable def rep (tp : Fn) (sz : Nat) (c x : Int32) (f : PS → PS) : Nat → PS → PS
  | 0, t => t
  | n + 1, t => @ite PS (nx tp sz t = c) (Classical.propDecidable _) (rep tp sz c x f n (em x (f (adv t)))) (t)
theorem lim_ex : ∃ n : Nat, n = 120 := ⟨120, rfl⟩
/-- 120, not to be unfolded -/
noncomputable def lim : Nat := Classical.choose lim_ex
theorem lim_eq : lim = 120 := Classical.choose_spec lim_ex
noncomputable def bothP (tp : Fn) (sz : Nat) (f : PS → PS) (t : PS) : PS := rep tp sz 38 (-2) f lim (f t)
noncomputable def eithP (tp : Fn) (sz : Nat) (f : PS → PS) (t : PS) : PS := rep tp sz 124 (-3) (bothP tp sz f) lim (bothP tp sz f t)
noncomputable def sgl (tp : Fn) (sz : Nat) : Nat → PS → PS
  | 0, t => @ite PS (pB t = true) (Classical.propDecidable _) (t) (tstP tp sz t)
  | d + 1, t => @ite PS (pB t = true) (Classical.propDecidable _) (t) (@ite PS (nx tp sz t = 33) (Classical.propDecidable _) (em (-1) (sgl tp sz d (adv t))) (@ite PS (nx tp sz t = 40) (Classical.propDecidable _) (nd tp sz 41 (eithP tp sz (sgl tp sz d) (adv t))) (tstP tp sz t)))
/-- steps that go from a stack of d to one of e -/
def okL : List Int32 → Nat → Nat → Prop
  | [], d, e => d = e
  | x :: r, d, e => (x = -1 ∧ 1 ≤ d ∧ okL r d e) ∨ ((x = -2 ∨ x = -3) ∧ 2 ≤ d ∧ okL r (d - 1) e) ∨ ((∃ t, t < 160 ∧ t / 4 % 4 < 3 ∧ x = nI t) ∧ d < 13 ∧ okL r (d + 1) e)
theorem okL_app {b : List Int32} {e m : Nat} (h2 : okL b m e) : ∀ (a : List Int32) (d : Nat), okL a d m → okL (a ++ b) d e := by
  intro a
  induction a with
  | nil => intro d h; have : d = m := h; subst this; exact h2
  | cons x r ih =>
    intro d h
    rcases h with ⟨h1, h3, h4⟩ | ⟨h1, h3, h4⟩ | ⟨h1, h3, h4⟩
    · exact Or.inl ⟨h1, h3, ih _ h4⟩
    · exact Or.inr (Or.inl ⟨h1, h3, ih _ h4⟩)
    · exact Or.inr (Or.inr ⟨h1, h3, ih _ h4⟩)
theorem okA_of {f : Fn} : ∀ (l : List Int32) (i d e : Nat), okL l d e → (∀ k, k < l.length → f (i + k) = l.getD k 0) → okA f l.length i d e := by
  intro l
  induction l with
  | nil => intro i d e h _; exact h
  | cons x r ih =>
    intro i d e h hf
    have h0 : f i = x := by have := hf 0 (by rw [List.length_cons]; omega); rwa [Nat.add_zero, List.getD_cons_zero] at this
    have hr : ∀ k, k < r.length → f (i + 1 + k) = r.getD k 0 := by
      intro k hk
      have := hf (k + 1) (by rw [List.length_cons]; omega)
      rw [List.getD_cons_succ] at this
      rw [← this]; congr 1; omega
    show okA f (r.length + 1) i d e
    rcases h with ⟨h1, h3, h4⟩ | ⟨h1, h3, h4⟩ | ⟨h1, h3, h4⟩
    · exact Or.inl ⟨h0.trans h1, h3, ih _ _ _ h4 hr⟩
    · exact Or.inr (Or.inl ⟨by rw [h0]; exact h1, h3, ih _ _ _ h4 hr⟩)
    · exact Or.inr (Or.inr ⟨by rw [h0]; exact h1, h3, ih _ _ _ h4 hr⟩)
theorem nx_bad {tp : Fn} {sz : Nat} {t : PS} (h : pB t = true) : nx tp sz t = -1 := by unfold nx; rw [if_neg (by rw [h]; exact fun z => absurd z.1 (by decide))]
theorem nx_in {tp : Fn} {sz : Nat} {t : PS} (h : nx tp sz t ≠ -1) : pB t = false ∧ pP t < sz := by
  unfold nx at h
  by_cases c : pB t = false ∧ pP t < sz
  · exact c
  · rw [if_neg c] at h; exact absurd rfl h
theorem ixL_some {x : Int32} : ∀ {cs : List Int32} {w : Nat}, ixL cs x = some w → w < cs.length ∧ x ∈ cs := by
  intro cs
  induction cs with
  | nil => intro w h; cases h
  | cons c cs ih =>
    intro w h
    unfold ixL at h
    by_cases e : c = x
    · rw [if_pos e] at h
      cases h
      exact ⟨by rw [List.length_cons]; omega, by rw [e]; exact List.mem_cons_self⟩
    · rw [if_neg e] at h
      cases h2 : ixL cs x with
      | none => rw [h2] at h; cases h
      | some w' =>
        rw [h2] at h
        cases h
        obtain ⟨i1, i2⟩ := ih h2
        exact ⟨by rw [List.length_cons]; exact Nat.succ_lt_succ i1, List.mem_cons_of_mem _ i2⟩
theorem tstP_bad {tp : Fn} {sz : Nat} {t : PS} (h : pB t = true) : tstP tp sz t = bad t := by
  unfold tstP; rw [nx_bad h]; rfl
theorem dig_of {x : Int32} {lo hi : Nat} (hl : lo ≤ hi) (hh : hi < 10) (h1 : nI (48 + lo) ≤ x) (h2 : x ≤ nI (48 + hi)) : ∃ v, lo ≤ v ∧ v ≤ hi ∧ x = nI (48 + v) ∧ x - 48 = nI v ∧ (x - 48).toNatClampNeg = v := by
  have hp : ¬ x < 0 := by have := nI_pos (n := 48 + lo) (by omega); grind
  obtain ⟨j, hj, rfl⟩ := nI_of hp
  rw [nI_leI (by omega) hj] at h1
  rw [nI_leI hj (by omega)] at h2
  have e : nI j - 48 = nI (j - 48) := pk_sub (b := 48) (by omega)
  exact ⟨j - 48, by omega, by omega, by congr 1; omega, e, by rw [e, nI_clamp (by omega)]⟩
/-- what a reader gives at a place without fault -/
def PgA (sz need : Nat) (t u : PS) : Prop := pP t ≤ pP u ∧ pP u ≤ sz ∧ (pB u = false → pP t < pP u ∧ ∃ seg, pL u = pL t ++ seg ∧ seg.length + pP t ≤ pP u ∧ ∀ b, b + need ≤ 13 → okL seg b (b + 1))
theorem PgA_bad {sz need : Nat} {t u : PS} (h1 : pP t ≤ pP u) (h2 : pP u ≤ sz) (h3 : pB u = true) : PgA sz need t u := ⟨h1, h2, fun z => by rw [h3] at z; cases z⟩
theorem PgA_tst2 {tp : Fn} {sz w h' : Nat} (hw : w < 4) (hh : h' < 3) {t : PS} (h : pB t = false) (hp : pP t + 2 ≤ sz) : PgA sz 1 t (tst2 tp sz w h' (adv (adv t))) := by
  unfold tst2
  by_cases c : nI 48 ≤ nx tp sz (adv (adv t)) ∧ nx tp sz (adv (adv t)) ≤ nI 57
  · rw [if_pos c]
    have n3 := nx_in (tp := tp) (sz := sz) (t := adv (adv t)) (by intro z; rw [z] at c; exact absurd c (by decide))
    have p3 : pP t + 1 + 1 < sz := n3.2
    obtain ⟨v, -, v1, -, -, v2⟩ := dig_of (lo := 0) (hi := 9) (by decide) (by decide) c.1 c.2
    rw [v2]
    have eb : em (nI (w + 4 * h' + 16 * v)) (adv (adv (adv t))) = (pP t + 3, false, pL t ++ [nI (w + 4 * h' + 16 * v)]) := by
      unfold em
      rw [if_neg (by show ¬ pB t = true; rw [h]; decide)]
      rfl
    rw [eb]
    refine ⟨by show pP t ≤ pP t + 3; omega, by show pP t + 3 ≤ sz; omega, fun _ => ⟨by show pP t < pP t + 3; omega, [_], rfl, by show 1 + pP t ≤ pP t + 3; omega, fun b hb => ?_⟩⟩
    refine Or.inr (Or.inr ⟨⟨_, ?_, ?_, rfl⟩, by omega, rfl⟩)
    · omega
    · omega
  · rw [if_neg c]
    exact PgA_bad (by show pP t ≤ pP t + 1 + 1; omega) (by show pP t + 1 + 1 ≤ sz; omega) rfl
theorem PgA_tst {tp : Fn} {sz : Nat} {t : PS} (h : pB t = false) (hp : pP t ≤ sz) : PgA sz 1 t (tstP tp sz t) := by
  unfold tstP
  cases e1 : ixL [108, 104, 119, 99] (nx tp sz t) with
  | none => exact PgA_bad (Nat.le_refl _) hp rfl
  | some w =>
    obtain ⟨w1, w2⟩ := ixL_some e1
    have n1 := nx_in (tp := tp) (sz := sz) (t := t) (by intro z; rw [z] at w2; exact absurd w2 (by decide))
    show PgA sz 1 t (tst1 tp sz w (adv t))
    unfold tst1
    cases e2 : ixL [60, 61, 62] (nx tp sz (adv t)) with
    | none => exact PgA_bad (Nat.le_succ _) n1.2 rfl
    | some h' =>
      obtain ⟨h1, h2⟩ := ixL_some e2
      have n2 := nx_in (tp := tp) (sz := sz) (t := adv t) (by intro z; rw [z] at h2; exact absurd h2 (by decide))
      have p2 : pP t + 1 < sz := n2.2
      exact PgA_tst2 w1 h1 h p2
/-- a reader: nothing after a fault -/
def PgF (sz need : Nat) (f : PS → PS) : Prop := ∀ t, (pB t = true → f t = t) ∧ (pB t = false → pP t ≤ sz → PgA sz need t (f t))
theorem em_bad {x : Int32} {t : PS} (h : pB t = true) : em x t = t := by unfold em; rw [if_pos h]
theorem em_ok {x : Int32} {t : PS} (h : pB t = false) : em x t = (pP t, false, pL t ++ [x]) := by unfold em; rw [if_neg (by rw [h]; decide)]
/-- more of the same kind, joined by a sign -/
theorem PgA_rep {tp : Fn} {sz need : Nat} {c x : Int32} {f : PS → PS} (hf : PgF sz need f) (hc : c ≠ -1) (hx : x = -2 ∨ x = -3) {t : PS} : ∀ (n : Nat) (u : PS), PgA sz (need + 1) t u → PgA sz (need + 1) t (rep tp sz c x f n u) := by
  intro n
  induction n with
  | zero => intro u h; exact h
  | succ n ih =>
    intro u h
    unfold rep
    by_cases e : nx tp sz u = c
    · rw [if_pos e]
      refine ih _ ?_
      have nn := nx_in (tp := tp) (sz := sz) (t := u) (by rw [e]; exact hc)
      obtain ⟨h1, h2, h3⟩ := h
      obtain ⟨h4, seg, h5, h6, h7⟩ := h3 nn.1
      obtain ⟨-, g⟩ := hf (adv u)
      obtain ⟨g1, g2, g3⟩ := g nn.1 nn.2
      have g1' : pP u + 1 ≤ pP (f (adv u)) := g1
      cases b : pB (f (adv u)) with
      | true => rw [em_bad b]; exact PgA_bad (by omega) g2 b
      | false =>
        obtain ⟨k1, seg2, k2, k3, k4⟩ := g3 b
        have k2' : pL (f (adv u)) = pL u ++ seg2 := k2
        have k3' : seg2.length + (pP u + 1) ≤ pP (f (adv u)) := k3
        rw [em_ok b]
        refine ⟨by show pP t ≤ pP (f (adv u)); omega, g2, fun _ => ⟨by show pP t < pP (f (adv u)); omega, seg ++ (seg2 ++ [x]), ?_, ?_, fun b hb => ?_⟩⟩
        · show pL (f (adv u)) ++ [x] = _
          rw [k2', h5]; simp
        · show _ ≤ pP (f (adv u))
          simp only [List.length_append, List.length_cons, List.length_nil]; omega
        · refine okL_app (okL_app ?_ seg2 _ (k4 (b + 1) (by omega))) seg b (h7 b (by omega))
          exact Or.inr (Or.inl ⟨hx, by omega, rfl⟩)
    · rw [if_neg e]; exact h
theorem PgA_weaken {sz n m : Nat} {t u : PS} (h : PgA sz n t u) (hm : n ≤ m) : PgA sz m t u := by
  obtain ⟨h1, h2, h3⟩ := h
  refine ⟨h1, h2, fun b => ?_⟩
  obtain ⟨a1, seg, a2, a3, a4⟩ := h3 b
  exact ⟨a1, seg, a2, a3, fun b hb => a4 b (by omega)⟩
theorem rep_bad {tp : Fn} {sz : Nat} {c x : Int32} {f : PS → PS} (hc : c ≠ -1) {t : PS} (h : pB t = true) : ∀ n, rep tp sz c x f n t = t
  | 0 => rfl
  | n + 1 => by unfold rep; rw [if_neg (by rw [nx_bad h]; exact fun z => hc z.symm)]
theorem PgF_both {tp : Fn} {sz need : Nat} {f : PS → PS} (hf : PgF sz need f) : PgF sz (need + 1) (bothP tp sz f) := by
  intro t
  refine ⟨fun h => ?_, fun h hp => ?_⟩
  · unfold bothP; rw [(hf t).1 h]; exact rep_bad (by decide) h _
  · exact PgA_rep hf (by decide) (Or.inl rfl) _ _ (PgA_weaken ((hf t).2 h hp) (by omega))
theorem PgF_eith {tp : Fn} {sz need : Nat} {f : PS → PS} (hf : PgF sz need f) : PgF sz (need + 2) (eithP tp sz f) := by
  intro t
  have hb := PgF_both (tp := tp) hf
  refine ⟨fun h => ?_, fun h hp => ?_⟩
  · unfold eithP; rw [(hb t).1 h]; exact rep_bad (by decide) h _
  · exact PgA_rep hb (by decide) (Or.inr rfl) _ _ (PgA_weaken ((hb t).2 h hp) (by omega))
theorem PgF_sgl (tp : Fn) (sz : Nat) : ∀ d, PgF sz (2 * d + 1) (sgl tp sz d) := by
  intro d
  induction d with
  | zero =>
    intro t
    refine ⟨fun h => by unfold sgl; rw [if_pos h], fun h hp => ?_⟩
    unfold sgl; rw [if_neg (by rw [h]; decide)]
    exact PgA_tst h hp
  | succ d ih =>
    intro t
    refine ⟨fun h => by unfold sgl; rw [if_pos h], fun h hp => ?_⟩
    unfold sgl; rw [if_neg (by rw [h]; decide)]
    by_cases c1 : nx tp sz t = 33
    · rw [if_pos c1]
      have nn := nx_in (tp := tp) (sz := sz) (t := t) (by rw [c1]; decide)
      obtain ⟨g1, g2, g3⟩ := (ih (adv t)).2 h nn.2
      have g1' : pP t + 1 ≤ pP (sgl tp sz d (adv t)) := g1
      cases b : pB (sgl tp sz d (adv t)) with
      | true => rw [em_bad b]; exact PgA_bad (by omega) g2 b
      | false =>
        obtain ⟨k1, seg2, k2, k3, k4⟩ := g3 b
        have k2' : pL (sgl tp sz d (adv t)) = pL t ++ seg2 := k2
        have k3' : seg2.length + (pP t + 1) ≤ pP (sgl tp sz d (adv t)) := k3
        rw [em_ok b]
        refine ⟨by show pP t ≤ pP (sgl tp sz d (adv t)); omega, g2, fun _ => ⟨by show pP t < pP (sgl tp sz d (adv t)); omega, seg2 ++ [-1], ?_, ?_, fun b hb => ?_⟩⟩
        · show pL (sgl tp sz d (adv t)) ++ [-1] = _
          rw [k2']; simp
        · show _ ≤ pP (sgl tp sz d (adv t))
          simp only [List.length_append, List.length_cons, List.length_nil]; omega
        · refine okL_app (b := [-1]) ?_ seg2 _ (k4 b (by omega))
          exact Or.inl ⟨rfl, by omega, rfl⟩
    · rw [if_neg c1]
      by_cases c2 : nx tp sz t = 40
      · rw [if_pos c2]
        have nn := nx_in (tp := tp) (sz := sz) (t := t) (by rw [c2]; decide)
        obtain ⟨g1, g2, g3⟩ := (PgF_eith (tp := tp) ih (adv t)).2 h nn.2
        have g1' : pP t + 1 ≤ pP (eithP tp sz (sgl tp sz d) (adv t)) := g1
        unfold nd
        by_cases c3 : nx tp sz (eithP tp sz (sgl tp sz d) (adv t)) = 41
        · rw [if_pos c3]
          have n3 := nx_in (tp := tp) (sz := sz) (t := eithP tp sz (sgl tp sz d) (adv t)) (by rw [c3]; decide)
          obtain ⟨k1, seg2, k2, k3, k4⟩ := g3 n3.1
          have k3' : seg2.length + (pP t + 1) ≤ pP (eithP tp sz (sgl tp sz d) (adv t)) := k3
          refine ⟨?_, n3.2, fun _ => ⟨?_, seg2, k2, ?_, fun b hb => k4 b (by omega)⟩⟩
          · show pP t ≤ pP (eithP tp sz (sgl tp sz d) (adv t)) + 1; omega
          · show pP t < pP (eithP tp sz (sgl tp sz d) (adv t)) + 1; omega
          · show _ ≤ pP (eithP tp sz (sgl tp sz d) (adv t)) + 1; omega
        · rw [if_neg c3]
          exact PgA_bad (by show pP t ≤ pP (eithP tp sz (sgl tp sz d) (adv t)); omega) g2 rfl
      · rw [if_neg c2]
        exact PgA_weaken (PgA_tst h hp) (by omega)
