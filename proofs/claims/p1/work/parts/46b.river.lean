/-! ===== by hand: both systems read a river ===== -/
theorem ix_le (t : PS) (h : pB t = false) : fl t = -1 := fl_f h
theorem C_readsRiver {tp pt : Fn} {sz : Nat} (hT : ∀ k, k < sz → pt k = tp k) (hB : ∀ k, k < sz → ∃ b, b < 256 ∧ tp k = nI b) (hz : sz ≤ 120) {Q : Int32 → Int32 → Int32 → Int32 → Fn → Int32 → Int32 → Int32 → Int32 → Int32 → Fn → Fn → Fn → Fn → Fn → Fn → Prop}
    (hq : ∀ (fault : Int32) (tape : Fn) re sp su od bk ml hg lv bo wy, RvC (rivP tp sz).1 (rivP tp sz).2 re sp su od bk ml hg lv bo wy → (pB (rivP tp sz).1 = false → okX (rivP tp sz).2) → pP (rivP tp sz).1 ≤ sz → ((pB (rivP tp sz).1 = true ∨ pP (rivP tp sz).1 < sz ∨ xN (rivP tp sz).2 = 0) → fault = nI (pP (rivP tp sz).1)) → (pB (rivP tp sz).1 = false → ¬ pP (rivP tp sz).1 < sz → xN (rivP tp sz).2 ≠ 0 → fault = -1) → Q fault (nI sz) (nI (pP (rivP tp sz).1)) fault tape re sp su od 0 bk ml hg lv bo wy)
    (a1 a2 a3 : Int32) (tape : Fn) (re sp su od ho : Int32) (bk ml hg lv bo wy : Fn) : WX4_reads (nI sz) pt a1 a2 a3 tape re sp su od ho bk ml hg lv bo wy Q := by
  unfold WX4_reads WX2_begin_X4
  refine C_copy 120 (by decide) fun tape hta _ => ?_
  have e1 : (if (0 : Int32) < (if (120 : Int32) < nI sz then 120 else nI sz) then (if (120 : Int32) < nI sz then 120 else nI sz) else 0) = nI sz := by
    have e0 : ¬ (120 : Int32) < nI sz := nI_nlt (a := 120) hz (by decide)
    rw [if_neg e0]
    by_cases z : sz = 0
    · rw [z]; rfl
    · have e00 : (0 : Int32) < nI sz := nI_lt (a := 0) (by omega) (by omega)
      rw [if_pos e00]
  rw [e1]
  rintro _ rfl
  have hT : ∀ k, k < sz → tape k = tp k := fun k hk => (hta k (by omega)).trans (hT k hk)
  clear hta e1
  unfold WX3_clear
  have f57 : ∀ re sp su od bk ml hg lv bo wy, RvC (rivP tp sz).1 (rivP tp sz).2 re sp su od bk ml hg lv bo wy → (pB (rivP tp sz).1 = false → okX (rivP tp sz).2) → pP (rivP tp sz).1 ≤ sz → WX4_reads_57 (nI sz) pt (nI sz) (nI (pP (rivP tp sz).1)) (fl (rivP tp sz).1) tape re sp su od 0 bk ml hg lv bo wy Q := by
    intro re sp su od bk ml hg lv bo wy h1 h2 h3
    generalize rivP tp sz = r at h1 h2 h3 hq ⊢
    obtain ⟨t, x⟩ := r
    replace h3 : pP t ≤ sz := h3
    replace hq := fun fault => hq fault tape re sp su od bk ml hg lv bo wy h1 h2 h3
    unfold WX4_reads_57
    refine C_needsEnd_X4 h3 hz ?_
    have f75 : ∀ fault, ((pB t = true ∨ pP t < sz ∨ xN x = 0) → fault = nI (pP t)) → (pB t = false → ¬ pP t < sz → xN x ≠ 0 → fault = -1) → WX4_reads_75 (nI sz) pt (nI sz) (nI (pP t)) fault tape re sp su od 0 bk ml hg lv bo wy Q := by
      intro fault g1 g2
      unfold WX4_reads_75 WX2_faultPlace_X4
      exact hq fault g1 g2
    have e3 : ∀ u : PS, pP (bad u) = pP u := fun _ => rfl
    have eE : pP (endP sz t) = pP t := by
      unfold endP
      by_cases z : pP t < sz
      · rw [if_pos z]; rfl
      · rw [if_neg z]
    have eB : pB (endP sz t) = true ↔ (pB t = true ∨ pP t < sz) := by
      unfold endP
      by_cases z : pP t < sz
      · rw [if_pos z]; exact ⟨fun _ => Or.inr z, fun _ => rfl⟩
      · rw [if_neg z]; exact ⟨fun h => Or.inl h, fun h => h.resolve_right z⟩
    by_cases cb : pB (endP sz t) = true
    · have ef : fl (endP sz t) = nI (pP t) := by rw [fl_t cb, eE]
      have ff := f75 (nI (pP t)) (fun _ => rfl) (fun h1 h2 _ => by
        rcases eB.mp cb with h | h
        · rw [h] at h1; cases h1
        · exact absurd h h2)
      rw [ef]
      refine br_c (fun _ => ?_) (fun _ => ff)
      have := C_fail_X4 (t := endP sz t) (by rw [eE]; omega) (Q := fun fault => WX4_reads_75 (nI sz) pt (nI sz) (nI (pP t)) fault tape re sp su od 0 bk ml hg lv bo wy Q) (by rw [fl_bad, eE]; exact ff)
      rw [ef, eE] at this
      exact this
    · have cb' : pB (endP sz t) = false := by cases h : pB (endP sz t) with
        | true => exact absurd h cb
        | false => rfl
      have hn : ¬ (pB t = true ∨ pP t < sz) := fun h => cb (eB.mpr h)
      have hbt : pB t = false := by cases h : pB t with
        | true => exact absurd (Or.inl h) hn
        | false => rfl
      obtain ⟨k1, -⟩ := h1 hbt
      have x3 := (h2 hbt).1
      replace x3 : xN x ≤ 3 := x3
      rw [fl_f cb']
      replace k1 : re = nI (xN x) := k1
      rw [k1] at f75 ⊢
      by_cases cx : xN x = 0
      · refine br_t (by rw [cx]; rfl) ?_
        have := C_fail_X4 (t := endP sz t) (by rw [eE]; omega) (Q := fun fault => WX4_reads_75 (nI sz) pt (nI sz) (nI (pP t)) fault tape (nI (xN x)) sp su od 0 bk ml hg lv bo wy Q) (by rw [fl_bad, eE]; exact f75 _ (fun _ => rfl) (fun _ _ h => absurd cx h))
        rw [fl_f cb', eE] at this
        exact this
      · refine br_f (fun z => cx ((nI_eq (b := 0) (by omega) (by decide)).mp z)) (f75 _ (fun h => ?_) (fun _ _ _ => rfl))
        rcases h with h | h | h
        · exact absurd (Or.inl h) hn
        · exact absurd (Or.inr h) hn
        · exact absurd h cx
  suffices g : ∀ (n m : Nat) (t : PS) (x : RV5) re sp su od bk ml hg lv bo wy, m ≤ 11 → m + 2 < n → pP t ≤ sz → pB t = false → okX x → RvC t x re sp su od bk ml hg lv bo wy → clsP tp sz (m + 1) t x = rivP tp sz → WX4_reads_16 (nI sz) pt Q n 1 (nI (12 - m)) (nI sz) (nI (pP t)) (fl t) tape re sp su od 0 bk ml hg lv bo wy from
    ⟨20, g 20 11 (0, false, []) x00 _ _ _ _ _ _ _ _ _ _ (by decide) (by decide) (Nat.zero_le _) rfl ⟨by decide, ⟨3, by decide, rfl⟩, ⟨9, by decide, rfl⟩, ⟨5, by decide, rfl⟩, fun r h => absurd h (Nat.not_lt_zero r)⟩ (fun _ => ⟨rfl, rfl, rfl, rfl, fun r h => absurd h (Nat.not_lt_zero r)⟩) rfl⟩
  intro n
  induction n with
  | zero => intro m t x re sp su od bk ml hg lv bo wy h0 h1; omega
  | succ n ih =>
    intro m t x re sp su od bk ml hg lv bo wy h0 h1 hp hb hx hr hc
    unfold WX4_reads_16
    refine br_f (nI_nlt (a := 12) (by omega) (by decide)) (br_f (by decide) ?_)
    obtain ⟨k1, k2⟩ := clP_ok (tp := tp) hp hb hx
    refine C_clause hT hB hz hp hb hx hr fun re sp su od bk ml hg lv bo wy hr => ?_
    unfold clsP at hc
    obtain ⟨n', rfl⟩ : ∃ n', n = n' + 1 := ⟨n - 1, by omega⟩
    have fin0 : clP tp sz t x = rivP tp sz → WX4_reads_49 (nI sz) pt (nI (12 - m)) (nI sz) (nI (pP (clP tp sz t x).1)) (fl (clP tp sz t x).1) tape re sp su od 0 bk ml hg lv bo wy Q (WX4_reads_16 (nI sz) pt Q (n' + 1)) := by
      intro e
      rw [e] at hr k1 k2 ⊢
      unfold WX4_reads_49 WX4_reads_50
      rintro _ rfl
      have f := f57 re sp su od bk ml hg lv bo wy hr k2 k1
      unfold WX4_reads_16
      exact br_c (fun _ => f) (fun _ => br_t rfl f)
    by_cases cm : m = 0
    · refine br_t (nI_le (a := 12) (by omega) (by omega)) (fin0 ?_)
      rw [← hc, if_neg (fun z => z.1 cm)]
    · refine br_f (nI_ge (b := 12) (by omega) (by decide)) (C_takes_X4 (t := (clP tp sz t x).1) hT hz k1 (fun e => br_f (by decide) ?_) (fun e => br_t rfl (fin0 ?_)))
      · have nn := nx_in (tp := tp) (sz := sz) (t := (clP tp sz t x).1) (by rw [e]; decide)
        rw [if_pos ⟨cm, e⟩] at hc
        unfold WX4_reads_50
        rintro _ rfl
        obtain ⟨m, rfl⟩ : ∃ m', m = m' + 1 := ⟨m - 1, by omega⟩
        rw [nI_1, show 12 - (m + 1) + 1 = 12 - m by omega, fl_adv (by decide) e]
        exact ih m (adv (clP tp sz t x).1) (clP tp sz t x).2 _ _ _ _ _ _ _ _ _ _ (by omega) (by omega) nn.2 nn.1 (k2 nn.1) (fun _ => hr nn.1) hc
      · rw [← hc, if_neg (fun z => e z.2)]
theorem M_spells0 {tp s : Fn} {sz : Nat} (hT : ∀ k, k < sz → s (10 + k) = tp k) (hz : sz ≤ 120) {z : Nat} (hz9 : z < 9) (hm : ∀ c, c ∈ bytJS.getD z [] → c ≠ -1) {t : PS} (hp : pP t ≤ sz) (hb : pB t = false) {Q : Int32 → Int32 → Prop} (h : Q (nI (pP (nds tp sz (bytJS.getD z []) t))) (b01 (pB (nds tp sz (bytJS.getD z []) t)))) : WX11_spells z (nI (pP t)) (nI sz) 0 s Q := by
  have g := M_spells hT hz hz9 hm hp h
  rw [hb] at g
  exact g
theorem M_must0 {tp s : Fn} {sz : Nat} (hT : ∀ k, k < sz → s (10 + k) = tp k) (hz : sz ≤ 120) {t : PS} (hp : pP t ≤ sz) (hb : pB t = false) {c : Int32} (hc : c ≠ -1) {Q : Int32 → Int32 → Prop} (h : Q (nI (pP (nd tp sz c t))) (b01 (pB (nd tp sz c t)))) : WX11_must c (nI (pP t)) (nI sz) 0 s Q := by
  have g := M_must hT hz hp hc h
  rw [hb] at g
  exact g
/-- the model's numbers of a river that is being read -/
def RvM (t : PS) (x : RV5) (mn sp su od : Int32) (bk ml lv : Fn) : Prop := pB t = false → mn = nI (xN x) ∧ sp = xSp x ∧ su = xSu x ∧ od = xOd x ∧ ∀ r, r < xN x → bk r = xBk x r ∧ ml r = xMl x r ∧ lv r = xLv x r
theorem M_clause {tp s : Fn} {sz : Nat} (hT : ∀ k, k < sz → s (10 + k) = tp k) (hz : sz ≤ 120) {t : PS} {x : RV5} (hp : pP t ≤ sz) (hb : pB t = false) (hx : okX x) {mn sp su od : Int32} {bk ml lv : Fn} (hr : RvM t x mn sp su od bk ml lv) {Q : Int32 → Int32 → Int32 → Int32 → Int32 → Int32 → Fn → Fn → Fn → Prop}
    (hq : ∀ mn sp su od bk ml lv, RvM (clP tp sz t x).1 (clP tp sz t x).2 mn sp su od bk ml lv → Q (nI (pP (clP tp sz t x).1)) (b01 (pB (clP tp sz t x).1)) mn sp su od bk ml lv) : WX11_riverHere (nI (pP t)) (nI sz) 0 mn sp su od s bk ml lv Q := by
  obtain ⟨h1, h2, h3, h4, h5⟩ := hr hb
  have x1 := hx.1
  subst h1 h2 h3 h4
  unfold clP at hq
  unfold WX11_riverHere
  refine M_here hT hz hp hb (br_c (fun e => ?_) (fun e => br_c (fun e2 => ?_) (fun e2 => br_c (fun e3 => ?_) (fun e3 => ?_))))
  · have nn := nx_in (tp := tp) (sz := sz) (t := t) (by rw [e]; decide)
    rw [if_neg (by rw [e]; decide), if_pos e] at hq
    have a1 := (nds_mono (tp := tp) [100, 100, 115, 32] l_dd (t := adv t) nn.2).2.1
    have en : nds tp sz [111, 100, 100, 115, 32] t = nds tp sz [100, 100, 115, 32] (adv t) := by
      show nds tp sz [100, 100, 115, 32] (nd tp sz 111 t) = _
      unfold nd; rw [if_pos e]
    refine M_spells0 (z := 8) hT hz (by decide) l_od hp hb ?_
    have en' : nds tp sz (bytJS.getD 8 []) t = nds tp sz [100, 100, 115, 32] (adv t) := en
    rw [en']
    exact M_figure (lo := 0) (hi := 9) hT hz (by decide) (by decide) a1 (hq _ _ _ _ _ _ _ (fun _ => ⟨rfl, rfl, rfl, rfl, h5⟩))
  · rw [if_pos e2] at hq
    unfold WX11_reachHere
    by_cases c3 : xN x < 3
    · rw [if_pos c3] at hq
      obtain ⟨⟨r1, r2, r3, r4, r5, r6⟩, r7⟩ := rd_ok (tp := tp) hp
      refine br_f (fun z => by have := (nI_eq (a := xN x) (b := 3) (by omega) (by decide)).mp z; omega) ?_
      have v3 : vp_in (nI (xN x)) 3 := vp_in_nI c3 (by decide)
      refine M_spells0 (z := 0) hT hz (by decide) l_re hp hb (M_figure (lo := 1) (hi := 9) (t := nds tp sz [114, 101, 97, 99, 104, 32] t) hT hz (by decide) (by decide) r1 ⟨v3, ?_⟩)
      refine M_must (t := (rd1 tp sz t).2) hT hz r2 (by decide) (M_figure (lo := 0) (hi := 9) (t := nd tp sz 32 (rd1 tp sz t).2) hT hz (by decide) (by decide) r3 ⟨v3, ?_⟩)
      refine M_must (t := (rd2 tp sz t).2) hT hz r4 (by decide) (M_figure (lo := 0) (hi := 9) (t := nd tp sz 32 (rd2 tp sz t).2) hT hz (by decide) (by decide) r5 ⟨v3, ?_⟩)
      rw [nI_1, nI_clamp (by omega)]
      rintro _ rfl
      refine hq _ _ _ _ _ _ _ (fun z => ⟨rfl, rfl, rfl, rfl, fun r hr => ?_⟩)
      replace hr : r < xN x + 1 := hr
      show _ = upd (xBk x) (xN x) (rd1 tp sz t).1 r ∧ _ = upd (xMl x) (xN x) (rd2 tp sz t).1 r ∧ _ = upd (xLv x) (xN x) (rd3 tp sz t).1 r
      by_cases c : r = xN x
      · subst c
        rw [pk_us, pk_us, pk_us, pk_us, pk_us, pk_us]
        exact ⟨rfl, rfl, rfl⟩
      · rw [pk_un c, pk_un c, pk_un c, pk_un c, pk_un c, pk_un c]
        exact h5 r (by omega)
    · rw [if_neg c3] at hq
      have e3 : xN x = 3 := by omega
      exact br_t (by rw [e3]; rfl) (hq _ _ _ _ _ _ _ (fun z => by cases z))
  · rw [if_neg e2, if_neg e, if_pos e3] at hq
    have nn := nx_in (tp := tp) (sz := sz) (t := t) (by rw [e3]; decide)
    have e115 : nd tp sz 115 t = adv t := by unfold nd; rw [if_pos e3]
    refine M_must0 hT hz hp hb (by decide) ?_
    rw [e115]
    have ba : pB (adv t) = false := nn.1
    rw [ba]
    refine M_here (t := adv t) hT hz nn.2 nn.1 (br_c (fun e4 => ?_) (fun e4 => ?_))
    · rw [if_pos e4] at hq
      have n2 := nx_in (tp := tp) (sz := sz) (t := adv t) (by rw [e4]; decide)
      have a1 := (nds_mono (tp := tp) [97, 110, 32] l_an (t := adv (adv t)) n2.2).2.1
      have en' : nds tp sz (bytJS.getD 7 []) (adv t) = nds tp sz [97, 110, 32] (adv (adv t)) := by
        show nds tp sz [97, 110, 32] (nd tp sz 112 (adv t)) = _
        unfold nd; rw [if_pos e4]
      unfold WX11_riverHere_67
      refine br_f (by decide) ?_
      unfold WX11_riverHere_80_2
      refine M_spells0 (z := 7) (t := adv t) hT hz (by decide) l_pan nn.2 ba ?_
      rw [en']
      refine M_figure (lo := 0) (hi := 9) hT hz (by decide) (by decide) a1 (br_f (by decide) ?_)
      unfold WX11_riverHere_104 WX11_riverHere_120
      exact br_f (by decide) (hq _ _ _ _ _ _ _ (fun _ => ⟨rfl, rfl, rfl, rfl, h5⟩))
    · rw [if_neg e4] at hq
      have a1 := (nds_mono (tp := tp) [117, 109, 32] l_um (t := adv t) nn.2).2.1
      unfold WX11_riverHere_67
      refine br_t rfl ?_
      unfold WX11_riverHere_80
      refine M_spells0 (z := 3) (t := adv t) hT hz (by decide) l_um nn.2 ba ?_
      refine M_figure (lo := 0) (hi := 9) (t := nds tp sz [117, 109, 32] (adv t)) hT hz (by decide) (by decide) a1 (br_t rfl ?_)
      unfold WX11_riverHere_104 WX11_riverHere_120
      exact br_t rfl (hq _ _ _ _ _ _ _ (fun _ => ⟨rfl, rfl, rfl, rfl, h5⟩))
  · rw [if_neg e2, if_neg e, if_neg e3] at hq
    exact hq _ _ _ _ _ _ _ (fun z => by cases z)
