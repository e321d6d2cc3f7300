/-! ===== by hand: a river that is read ===== -/
/-- reaches, span, sum, odds, banks, mills, levels -/
abbrev RV5 : Type := Nat × Int32 × Int32 × Int32 × Fn × Fn × Fn
abbrev xN (x : RV5) : Nat := x.1
abbrev xSp (x : RV5) : Int32 := x.2.1
abbrev xSu (x : RV5) : Int32 := x.2.2.1
abbrev xOd (x : RV5) : Int32 := x.2.2.2.1
abbrev xBk (x : RV5) : Fn := x.2.2.2.2.1
abbrev xMl (x : RV5) : Fn := x.2.2.2.2.2.1
abbrev xLv (x : RV5) : Fn := x.2.2.2.2.2.2
noncomputable def rd1 (tp : Fn) (sz : Nat) (t : PS) : Int32 × PS := dgP tp sz 1 9 (nds tp sz [114, 101, 97, 99, 104, 32] t)
noncomputable def rd2 (tp : Fn) (sz : Nat) (t : PS) : Int32 × PS := dgP tp sz 0 9 (nd tp sz 32 (rd1 tp sz t).2)
noncomputable def rd3 (tp : Fn) (sz : Nat) (t : PS) : Int32 × PS := dgP tp sz 0 9 (nd tp sz 32 (rd2 tp sz t).2)
def addX (x : RV5) (b m l : Int32) : RV5 := (xN x + 1, xSp x, xSu x, xOd x, upd (xBk x) (xN x) b, upd (xMl x) (xN x) m, upd (xLv x) (xN x) l)
noncomputable def clP (tp : Fn) (sz : Nat) (t : PS) (x : RV5) : PS × RV5 :=
  @ite (PS × RV5) (nx tp sz t = 114) (Classical.propDecidable _) (@ite (PS × RV5) (xN x < 3) (Classical.propDecidable _) ((rd3 tp sz t).2, addX x (rd1 tp sz t).1 (rd2 tp sz t).1 (rd3 tp sz t).1) (bad t, x))
    (@ite (PS × RV5) (nx tp sz t = 111) (Classical.propDecidable _) ((dgP tp sz 0 9 (nds tp sz [100, 100, 115, 32] (adv t))).2, (xN x, xSp x, xSu x, (dgP tp sz 0 9 (nds tp sz [100, 100, 115, 32] (adv t))).1, xBk x, xMl x, xLv x))
      (@ite (PS × RV5) (nx tp sz t = 115) (Classical.propDecidable _)
        (@ite (PS × RV5) (nx tp sz (adv t) = 112) (Classical.propDecidable _) ((dgP tp sz 0 9 (nds tp sz [97, 110, 32] (adv (adv t)))).2, (xN x, (dgP tp sz 0 9 (nds tp sz [97, 110, 32] (adv (adv t)))).1, xSu x, xOd x, xBk x, xMl x, xLv x))
          ((dgP tp sz 0 9 (nds tp sz [117, 109, 32] (adv t))).2, (xN x, xSp x, (dgP tp sz 0 9 (nds tp sz [117, 109, 32] (adv t))).1, xOd x, xBk x, xMl x, xLv x)))
        (bad t, x)))
noncomputable def clsP (tp : Fn) (sz : Nat) : Nat → PS → RV5 → PS × RV5
  | 0, t, x => (t, x)
  | n + 1, t, x => @ite (PS × RV5) (n ≠ 0 ∧ nx tp sz (clP tp sz t x).1 = 59) (Classical.propDecidable _) (clsP tp sz n (adv (clP tp sz t x).1) (clP tp sz t x).2) (clP tp sz t x)
def x00 : RV5 := (0, 3, 9, 5, fun _ => 0, fun _ => 0, fun _ => 0)
noncomputable def rivP (tp : Fn) (sz : Nat) : PS × RV5 := clsP tp sz 12 (0, false, []) x00
theorem l_re : ∀ c : Int32, c ∈ ([114, 101, 97, 99, 104, 32] : List Int32) → c ≠ -1 := by decide
theorem l_dd : ∀ c : Int32, c ∈ ([100, 100, 115, 32] : List Int32) → c ≠ -1 := by decide
theorem l_an : ∀ c : Int32, c ∈ ([97, 110, 32] : List Int32) → c ≠ -1 := by decide
theorem l_um : ∀ c : Int32, c ∈ ([117, 109, 32] : List Int32) → c ≠ -1 := by decide
theorem l_od : ∀ c : Int32, c ∈ ([111, 100, 100, 115, 32] : List Int32) → c ≠ -1 := by decide
theorem l_pan : ∀ c : Int32, c ∈ ([112, 97, 110, 32] : List Int32) → c ≠ -1 := by decide
theorem dg_ex {tp : Fn} {sz lo hi : Nat} {t : PS} (hlo : lo ≤ hi) (hhi : hi < 10) (h : pB (dgP tp sz lo hi t).2 = false) : ∃ v, lo ≤ v ∧ v ≤ hi ∧ (dgP tp sz lo hi t).1 = nI v := by
  unfold dgP at h ⊢
  by_cases c : nI (48 + lo) ≤ nx tp sz t ∧ nx tp sz t ≤ nI (48 + hi)
  · rw [if_pos c]
    obtain ⟨v, v0, v1, -, v3, -⟩ := dig_of hlo hhi c.1 c.2
    exact ⟨v, v0, v1, v3⟩
  · rw [if_neg c] at h; cases h
theorem nd_b {tp : Fn} {sz : Nat} {c : Int32} {t : PS} (hc : c ≠ -1) (h : pB (nd tp sz c t) = false) : pB t = false := by
  cases b : pB t with
  | false => rfl
  | true =>
    unfold nd at h
    rw [if_neg (by rw [nx_bad b]; exact fun z => hc z.symm)] at h
    cases h
theorem rd_ok {tp : Fn} {sz : Nat} {t : PS} (h : pP t ≤ sz) : (pP (nds tp sz [114, 101, 97, 99, 104, 32] t) ≤ sz ∧ pP (rd1 tp sz t).2 ≤ sz ∧ pP (nd tp sz 32 (rd1 tp sz t).2) ≤ sz ∧ pP (rd2 tp sz t).2 ≤ sz ∧ pP (nd tp sz 32 (rd2 tp sz t).2) ≤ sz ∧ pP (rd3 tp sz t).2 ≤ sz) ∧ (pB (rd3 tp sz t).2 = false → pB (rd2 tp sz t).2 = false ∧ pB (rd1 tp sz t).2 = false) := by
  have a1 := (nds_mono (tp := tp) [114, 101, 97, 99, 104, 32] l_re h).2.1
  have a2 := dgP_mono (tp := tp) (sz := sz) (lo := 1) (hi := 9) (by decide) a1
  have a3 := nd_mono (tp := tp) (c := 32) (by decide) (t := (rd1 tp sz t).2) a2.2.1
  have a4 := dgP_mono (tp := tp) (sz := sz) (lo := 0) (hi := 9) (by decide) a3.2.1
  have a5 := nd_mono (tp := tp) (c := 32) (by decide) (t := (rd2 tp sz t).2) a4.2.1
  have a6 := dgP_mono (tp := tp) (sz := sz) (lo := 0) (hi := 9) (by decide) a5.2.1
  refine ⟨⟨a1, a2.2.1, a3.2.1, a4.2.1, a5.2.1, a6.2.1⟩, fun hb => ?_⟩
  have b2 : pB (rd2 tp sz t).2 = false := nd_b (by decide) (a6.2.2.2.2 hb).1
  exact ⟨b2, nd_b (by decide) (a4.2.2.2.2 b2).1⟩
/-- a river that can be -/
def okX (x : RV5) : Prop := xN x ≤ 3 ∧ (∃ v, v ≤ 9 ∧ xSp x = nI v) ∧ (∃ v, v ≤ 9 ∧ xSu x = nI v) ∧ (∃ v, v ≤ 9 ∧ xOd x = nI v) ∧ ∀ r, r < xN x → (∃ v, v ≤ 9 ∧ xBk x r = nI v) ∧ (∃ v, v ≤ 9 ∧ xMl x r = nI v) ∧ ∃ v, v ≤ 9 ∧ xLv x r = nI v
theorem clP_ok {tp : Fn} {sz : Nat} {t : PS} {x : RV5} (h : pP t ≤ sz) (hb : pB t = false) (hx : okX x) : pP (clP tp sz t x).1 ≤ sz ∧ (pB (clP tp sz t x).1 = false → okX (clP tp sz t x).2) := by
  obtain ⟨x1, x2, x3, x4, x5⟩ := hx
  unfold clP
  by_cases c1 : nx tp sz t = 114
  · rw [if_pos c1]
    by_cases c2 : xN x < 3
    · rw [if_pos c2]
      obtain ⟨⟨r1, r2, r3, r4, r5, r6⟩, r7⟩ := rd_ok (tp := tp) h
      refine ⟨r6, fun b => ?_⟩
      obtain ⟨b2, b1⟩ := r7 b
      obtain ⟨d1, -, e1, g1⟩ := dg_ex (lo := 1) (hi := 9) (by decide) (by decide) b1
      obtain ⟨d2, -, e2, g2⟩ := dg_ex (lo := 0) (hi := 9) (by decide) (by decide) b2
      obtain ⟨d3, -, e3, g3⟩ := dg_ex (lo := 0) (hi := 9) (by decide) (by decide) b
      refine ⟨c2, x2, x3, x4, fun r hr => ?_⟩
      replace hr : r < xN x + 1 := hr
      show (∃ v, v ≤ 9 ∧ upd (xBk x) (xN x) (rd1 tp sz t).1 r = nI v) ∧ (∃ v, v ≤ 9 ∧ upd (xMl x) (xN x) (rd2 tp sz t).1 r = nI v) ∧ ∃ v, v ≤ 9 ∧ upd (xLv x) (xN x) (rd3 tp sz t).1 r = nI v
      by_cases c : r = xN x
      · subst c
        rw [pk_us, pk_us, pk_us]
        exact ⟨⟨d1, e1, g1⟩, ⟨d2, e2, g2⟩, d3, e3, g3⟩
      · rw [pk_un c, pk_un c, pk_un c]; exact x5 r (by omega)
    · rw [if_neg c2]; exact ⟨h, fun z => by cases z⟩
  rw [if_neg c1]
  by_cases c2 : nx tp sz t = 111
  · rw [if_pos c2]
    have nn := nx_in (tp := tp) (sz := sz) (t := t) (by rw [c2]; decide)
    have a1 := (nds_mono (tp := tp) [100, 100, 115, 32] l_dd (t := adv t) nn.2).2.1
    have a2 := dgP_mono (tp := tp) (sz := sz) (lo := 0) (hi := 9) (by decide) a1
    refine ⟨a2.2.1, fun b => ?_⟩
    obtain ⟨d1, -, e1, g1⟩ := dg_ex (lo := 0) (hi := 9) (by decide) (by decide) b
    exact ⟨x1, x2, x3, ⟨d1, e1, g1⟩, x5⟩
  rw [if_neg c2]
  by_cases c3 : nx tp sz t = 115
  · rw [if_pos c3]
    have nn := nx_in (tp := tp) (sz := sz) (t := t) (by rw [c3]; decide)
    by_cases c4 : nx tp sz (adv t) = 112
    · rw [if_pos c4]
      have n2 := nx_in (tp := tp) (sz := sz) (t := adv t) (by rw [c4]; decide)
      have a1 := (nds_mono (tp := tp) [97, 110, 32] l_an (t := adv (adv t)) n2.2).2.1
      have a2 := dgP_mono (tp := tp) (sz := sz) (lo := 0) (hi := 9) (by decide) a1
      refine ⟨a2.2.1, fun b => ?_⟩
      obtain ⟨d1, -, e1, g1⟩ := dg_ex (lo := 0) (hi := 9) (by decide) (by decide) b
      exact ⟨x1, ⟨d1, e1, g1⟩, x3, x4, x5⟩
    · rw [if_neg c4]
      have a1 := (nds_mono (tp := tp) [117, 109, 32] l_um (t := adv t) nn.2).2.1
      have a2 := dgP_mono (tp := tp) (sz := sz) (lo := 0) (hi := 9) (by decide) a1
      refine ⟨a2.2.1, fun b => ?_⟩
      obtain ⟨d1, -, e1, g1⟩ := dg_ex (lo := 0) (hi := 9) (by decide) (by decide) b
      exact ⟨x1, x2, ⟨d1, e1, g1⟩, x4, x5⟩
  · rw [if_neg c3]; exact ⟨h, fun z => by cases z⟩
def clip (v : Int32) : Int32 := if v < 1 then 1 else if 3 < v then 3 else v
def mnL (l b : Int32) : Int32 := if l ≤ b then l else b
def RvC (t : PS) (x : RV5) (re sp su od : Int32) (bk ml hg lv bo wy : Fn) : Prop := pB t = false → re = nI (xN x) ∧ sp = clip (xSp x) ∧ su = xSu x ∧ od = xOd x ∧ ∀ r, r < xN x → bk r = xBk x r ∧ ml r = xMl x r ∧ hg r = -1 ∧ lv r = mnL (xLv x r) (xBk x r) ∧ bo r = 0 ∧ wy r = 1
theorem fl_adv {tp : Fn} {sz : Nat} {t : PS} {c : Int32} (hc : c ≠ -1) (e : nx tp sz t = c) : fl t = fl (adv t) := by
  have n := nx_in (tp := tp) (sz := sz) (t := t) (by rw [e]; exact hc)
  rw [fl_f n.1, fl_f (t := adv t) n.1]
theorem C_clause {tp tape : Fn} {sz : Nat} (hT : ∀ k, k < sz → tape k = tp k) (hB : ∀ k, k < sz → ∃ b, b < 256 ∧ tp k = nI b) (hz : sz ≤ 120) {t : PS} {x : RV5} (hp : pP t ≤ sz) (hb : pB t = false) (hx : okX x) {re sp su od : Int32} {bk ml hg lv bo wy : Fn} (hr : RvC t x re sp su od bk ml hg lv bo wy) {Q : Int32 → Int32 → Int32 → Int32 → Int32 → Int32 → Fn → Fn → Fn → Fn → Fn → Fn → Prop}
    (hq : ∀ re sp su od bk ml hg lv bo wy, RvC (clP tp sz t x).1 (clP tp sz t x).2 re sp su od bk ml hg lv bo wy → Q (nI (pP (clP tp sz t x).1)) (fl (clP tp sz t x).1) re sp su od bk ml hg lv bo wy) : WX4_readClause (nI sz) (nI (pP t)) (fl t) tape re sp su od bk ml hg lv bo wy Q := by
  obtain ⟨h1, h2, h3, h4, h5⟩ := hr hb
  have x1 := hx.1
  subst h1 h2 h3 h4
  unfold clP at hq
  unfold WX4_readClause
  have c27 : (nx tp sz t = 114 → ¬ xN x < 3) → WX4_readClause_27 (nI sz) tape (nI (pP t)) (fl t) (nI (xN x)) (clip (xSp x)) (xSu x) (xOd x) bk ml hg lv bo wy Q := by
    intro hc
    unfold WX4_readClause_27
    refine C_takes_X4 hT hz hp (fun e => br_f (by decide) ?_) (fun e => br_t rfl (C_takes_X4 hT hz hp (fun e2 => br_f (by decide) ?_) (fun e2 => br_t rfl (C_fail_X4 (by omega) ?_))))
    · rw [if_neg (by rw [e]; decide), if_pos e] at hq
      have nn := nx_in (tp := tp) (sz := sz) (t := t) (by rw [e]; decide)
      have a1 := (nds_mono (tp := tp) [100, 100, 115, 32] l_dd (t := adv t) nn.2).2.1
      rw [fl_adv (by decide) e]
      refine C_needsAll_X4 (z := 1) (t := adv t) hT hz (by decide) l_dd nn.2 (C_digit_X4 (lo := 0) (hi := 9) (t := nds tp sz [100, 100, 115, 32] (adv t)) hT hB hz (by decide) (by decide) a1 fun r hr => hq _ _ _ _ _ _ _ _ _ _ (fun b => ⟨rfl, rfl, rfl, hr b, h5⟩))
    · rw [if_neg (by rw [e2]; decide), if_neg e, if_pos e2] at hq
      have nn := nx_in (tp := tp) (sz := sz) (t := t) (by rw [e2]; decide)
      rw [fl_adv (by decide) e2]
      unfold WX4_readSpanOrSum
      refine C_takes_X4 (t := adv t) hT hz nn.2 (fun e3 => br_f (by decide) ?_) (fun e3 => br_t rfl ?_)
      · rw [if_pos e3] at hq
        have n2 := nx_in (tp := tp) (sz := sz) (t := adv t) (by rw [e3]; decide)
        have a1 := (nds_mono (tp := tp) [97, 110, 32] l_an (t := adv (adv t)) n2.2).2.1
        rw [fl_adv (by decide) e3]
        refine C_needsAll_X4 (z := 2) (t := adv (adv t)) hT hz (by decide) l_an n2.2 (C_digit_X4 (lo := 0) (hi := 9) (t := nds tp sz [97, 110, 32] (adv (adv t))) hT hB hz (by decide) (by decide) a1 fun r hr => ?_)
        rintro _ rfl
        refine hq _ _ _ _ _ _ _ _ _ _ (fun b => ⟨rfl, ?_, rfl, rfl, h5⟩)
        rw [hr b]
        unfold clip
        grind
      · rw [if_neg e3] at hq
        have a1 := (nds_mono (tp := tp) [117, 109, 32] l_um (t := adv t) nn.2).2.1
        refine C_needsAll_X4 (z := 3) (t := adv t) hT hz (by decide) l_um nn.2 (C_digit_X4 (lo := 0) (hi := 9) (t := nds tp sz [117, 109, 32] (adv t)) hT hB hz (by decide) (by decide) a1 fun r hr => hq _ _ _ _ _ _ _ _ _ _ (fun b => ⟨rfl, rfl, hr b, rfl, h5⟩))
    · by_cases c : nx tp sz t = 114
      · rw [if_pos c, if_neg (hc c)] at hq
        exact hq _ _ _ _ _ _ _ _ _ _ (fun z => by cases z)
      · rw [if_neg c, if_neg e, if_neg e2] at hq
        exact hq _ _ _ _ _ _ _ _ _ _ (fun z => by cases z)
  refine C_next_X4 hT hz hp (br_c (fun e => ?_) (fun e => c27 (fun z => absurd z e)))
  by_cases c3 : xN x < 3
  · rw [if_pos e, if_pos c3] at hq
    refine br_f (nI_ge (b := 3) c3 (by decide)) ?_
    obtain ⟨⟨r1, r2, r3, r4, r5, r6⟩, r7⟩ := rd_ok (tp := tp) hp
    unfold WX4_readReach
    refine C_needsAll_X4 (z := 0) hT hz (by decide) l_re hp (C_digit_X4 (lo := 1) (hi := 9) (t := nds tp sz [114, 101, 97, 99, 104, 32] t) hT hB hz (by decide) (by decide) r1 fun b hb1 => ?_)
    refine C_needs_X4 (t := (rd1 tp sz t).2) hT hz r2 (by decide) (C_digit_X4 (lo := 0) (hi := 9) (t := nd tp sz 32 (rd1 tp sz t).2) hT hB hz (by decide) (by decide) r3 fun m hb2 => ?_)
    refine C_needs_X4 (t := (rd2 tp sz t).2) hT hz r4 (by decide) (C_digit_X4 (lo := 0) (hi := 9) (t := nd tp sz 32 (rd2 tp sz t).2) hT hB hz (by decide) (by decide) r5 fun l hb3 => ?_)
    unfold WX3_addReach
    have v3 : vp_in (nI (xN x)) 3 := vp_in_nI c3 (by decide)
    refine br_f (nI_pos (by omega)) (br_t (nI_lt (b := 3) c3 (by decide)) ⟨v3, v3, v3, ?_⟩)
    rintro _ rfl
    refine ⟨v3, v3, v3, ?_⟩
    rw [nI_1, nI_clamp (by omega)]
    rintro _ rfl
    refine hq _ _ _ _ _ _ _ _ _ _ (fun z => ?_)
    obtain ⟨z2, z1⟩ := r7 z
    refine ⟨rfl, rfl, rfl, rfl, fun r hr => ?_⟩
    replace hr : r < xN x + 1 := hr
    show _ = upd (xBk x) (xN x) (rd1 tp sz t).1 r ∧ _ = upd (xMl x) (xN x) (rd2 tp sz t).1 r ∧ _ ∧ _ = mnL (upd (xLv x) (xN x) (rd3 tp sz t).1 r) (upd (xBk x) (xN x) (rd1 tp sz t).1 r) ∧ _
    by_cases c : r = xN x
    · subst c
      rw [pk_us, pk_us, pk_us, pk_us, pk_us, pk_us, pk_us, pk_us, pk_us]
      refine ⟨hb1 z1, hb2 z2, rfl, ?_, rfl, rfl⟩
      rw [hb1 z1, hb3 z]
      show _ = mnL (rd3 tp sz t).1 (rd1 tp sz t).1
      unfold mnL
      show (if (rd1 tp sz t).1 < (rd3 tp sz t).1 then (rd1 tp sz t).1 else (rd3 tp sz t).1) = _
      grind
    · rw [pk_un c, pk_un c, pk_un c, pk_un c, pk_un c, pk_un c, pk_un c, pk_un c, pk_un c]
      exact h5 r (by omega)
  · exact br_t (nI_le (a := 3) (by omega) (by omega)) (c27 (fun _ => c3))
