/-! ===== by hand: the lines of a card, and how the program reads them ===== -/
abbrev LN : Type := Int32 × Nat × Nat
noncomputable def lnA (tp : Fn) (sz : Nat) (t : PS) : PS := nds tp sz [32, 105, 102, 32] (dgP tp sz 0 3 t).2
theorem grP_ex (tp : Fn) (sz : Nat) : ∃ f : PS → PS, f = eithP tp sz (sgl tp sz 5) := ⟨_, rfl⟩
/-- the condition of a line, not to be unfolded -/
noncomputable def grP (tp : Fn) (sz : Nat) : PS → PS := Classical.choose (grP_ex tp sz)
theorem grP_eq (tp : Fn) (sz : Nat) : grP tp sz = eithP tp sz (sgl tp sz 5) := Classical.choose_spec (grP_ex tp sz)
theorem PgF_gr (tp : Fn) (sz : Nat) : PgF sz 13 (grP tp sz) := by rw [grP_eq]; exact PgF_eith (PgF_sgl tp sz 5)
noncomputable def lnP (tp : Fn) (sz : Nat) (t : PS) : PS := grP tp sz (lnA tp sz t)
noncomputable def lnX (tp : Fn) (sz : Nat) (t : PS) : LN := ((dgP tp sz 0 3 t).1, (pL (lnA tp sz t)).length, (pL (lnP tp sz t)).length)
noncomputable def lnsP (tp : Fn) (sz : Nat) : Nat → PS → List LN → PS × List LN
  | 0, t, acc => (t, acc)
  | n + 1, t, acc => @ite (PS × List LN) (n ≠ 0 ∧ nx tp sz (lnP tp sz t) = 59) (Classical.propDecidable _) (lnsP tp sz n (adv (lnP tp sz t)) (acc ++ [lnX tp sz t])) ((lnP tp sz t, acc ++ [lnX tp sz t]))
noncomputable def cardP (tp : Fn) (sz : Nat) : PS × List LN := lnsP tp sz 6 (0, false, []) []
set_option maxHeartbeats 60000 in
theorem dgP_mono {tp : Fn} {sz lo hi : Nat} (hlo : 48 + lo < 1000) {t : PS} (hp : pP t ≤ sz) : pP t ≤ pP (dgP tp sz lo hi t).2 ∧ pP (dgP tp sz lo hi t).2 ≤ sz ∧ pL (dgP tp sz lo hi t).2 = pL t ∧ (pB t = true → (dgP tp sz lo hi t).2 = t) ∧ (pB (dgP tp sz lo hi t).2 = false → pB t = false ∧ pP t < pP (dgP tp sz lo hi t).2) := by
  unfold dgP
  by_cases c : nI (48 + lo) ≤ nx tp sz t ∧ nx tp sz t ≤ nI (48 + hi)
  · rw [if_pos c]
    have n := nx_in (tp := tp) (sz := sz) (t := t) (by intro z; rw [z] at c; exact absurd c.1 (by have := nI_pos (n := 48 + lo) (by omega); grind))
    exact ⟨Nat.le_succ _, n.2, rfl, fun b => (by rw [n.1] at b; cases b), fun b => ⟨n.1, Nat.lt_succ_self _⟩⟩
  · rw [if_neg c]; exact ⟨Nat.le_refl _, hp, rfl, fun b => bad_eq b, fun b => by cases b⟩
theorem ifc : ∀ c : Int32, c ∈ ([32, 105, 102, 32] : List Int32) → c ≠ -1 := by decide
theorem ln_gen {sz : Nat} {t d a u : PS} (a1 : pP t ≤ pP d) (a3 : pL d = pL t) (a4 : pB t = true → d = t) (a5 : pB d = false → pB t = false ∧ pP t < pP d) (b1 : pP d ≤ pP a) (b2 : pP a ≤ sz) (b3 : pL a = pL d) (b4 : pB d = true → a = d) (g1 : pB a = true → u = a) (g2 : pB a = false → PgA sz 13 a u) (hl : pB t = false → (pL t).length ≤ pP t) :
    (pP a ≤ sz ∧ (pB a = false → pB t = false ∧ (pL a).length < pP a) ∧ pL a = pL t) ∧ pP t ≤ pP u ∧ pP u ≤ sz ∧ (pB t = true → u = t) ∧ (pB u = false → pB a = false ∧ (pL u).length < pP u ∧ ∃ seg, pL u = pL t ++ seg ∧ okL seg 0 1) := by
  have hA : pB a = false → pB t = false ∧ (pL a).length < pP a := by
    intro b
    have hd : pB d = false := by
      cases z : pB d with
      | false => rfl
      | true => rw [b4 z, z] at b; cases b
    obtain ⟨c1, c2⟩ := a5 hd
    have := hl c1
    refine ⟨c1, ?_⟩
    rw [b3, a3]; omega
  refine ⟨⟨b2, hA, b3.trans a3⟩, ?_⟩
  cases b : pB a with
  | true =>
    rw [g1 b]
    refine ⟨by omega, b2, fun h => ?_, fun z => by rw [b] at z; cases z⟩
    rw [b4 (by rw [a4 h]; exact h), a4 h]
  | false =>
    have g := g2 b
    refine ⟨Nat.le_trans (by omega) g.1, g.2.1, fun h => ?_, fun z => ?_⟩
    · have := (hA b).1; rw [h] at this; cases this
    · obtain ⟨c1, seg, c2, c3, c4⟩ := g.2.2 z
      have h1 := (hA b).2
      have e3 : pL a = pL t := b3.trans a3
      refine ⟨rfl, ?_, seg, by rw [c2, e3], c4 0 (by decide)⟩
      rw [c2, List.length_append]; omega
/-- a line of a card: where it is, what it holds -/
theorem lnP_ok {tp : Fn} {sz : Nat} {t : PS} (hp : pP t ≤ sz) (hl : pB t = false → (pL t).length ≤ pP t) :
    (pP (lnA tp sz t) ≤ sz ∧ (pB (lnA tp sz t) = false → pB t = false ∧ (pL (lnA tp sz t)).length < pP (lnA tp sz t)) ∧ pL (lnA tp sz t) = pL t) ∧
    pP t ≤ pP (lnP tp sz t) ∧ pP (lnP tp sz t) ≤ sz ∧ (pB t = true → lnP tp sz t = t) ∧ (pB (lnP tp sz t) = false → pB (lnA tp sz t) = false ∧ (pL (lnP tp sz t)).length < pP (lnP tp sz t) ∧ ∃ seg, pL (lnP tp sz t) = pL t ++ seg ∧ okL seg 0 1) := by
  obtain ⟨a1, a2, a3, a4, a5⟩ := dgP_mono (tp := tp) (sz := sz) (lo := 0) (hi := 3) (t := t) (by decide) hp
  obtain ⟨b1, b2, b3, b4⟩ := nds_mono (tp := tp) [32, 105, 102, 32] ifc a2
  exact ln_gen (sz := sz) (t := t) (d := (dgP tp sz 0 3 t).2) (a := lnA tp sz t) (u := lnP tp sz t) a1 a3 a4 a5 b1 b2 b3 b4 (fun h => (PgF_gr tp sz _).1 h) (fun h => (PgF_gr tp sz _).2 h b2) hl
