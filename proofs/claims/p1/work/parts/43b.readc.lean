/-! ===== by hand: how the program reads ===== -/
def fl (t : PS) : Int32 := if pB t = true then nI (pP t) else -1
theorem fl_t {t : PS} (h : pB t = true) : fl t = nI (pP t) := by unfold fl; rw [if_pos h]
theorem fl_f {t : PS} (h : pB t = false) : fl t = -1 := by unfold fl; rw [if_neg (by rw [h]; decide)]
theorem bad_eq {t : PS} (h : pB t = true) : bad t = t := by obtain ⟨a, b, c⟩ := t; have : b = true := h; subst this; rfl
theorem fl_bad (t : PS) : fl (bad t) = nI (pP t) := fl_t (t := bad t) rfl
noncomputable def endP (sz : Nat) (t : PS) : PS := @ite PS (pP t < sz) (Classical.propDecidable _) (bad t) (t)
/-- signs that must come -/
noncomputable def nds (tp : Fn) (sz : Nat) : List Int32 → PS → PS
  | [], t => t
  | c :: cs, t => nds tp sz cs (nd tp sz c t)
theorem nd_mono {tp : Fn} {sz : Nat} {c : Int32} (hc : c ≠ -1) {t : PS} (h : pP t ≤ sz) : pP t ≤ pP (nd tp sz c t) ∧ pP (nd tp sz c t) ≤ sz ∧ pL (nd tp sz c t) = pL t ∧ (pB t = true → nd tp sz c t = t) := by
  unfold nd
  by_cases e : nx tp sz t = c
  · rw [if_pos e]
    have n := nx_in (tp := tp) (sz := sz) (t := t) (by rw [e]; exact hc)
    exact ⟨Nat.le_succ _, n.2, rfl, fun b => by rw [n.1] at b; cases b⟩
  · rw [if_neg e]; exact ⟨Nat.le_refl _, h, rfl, fun b => bad_eq b⟩
theorem nds_mono {tp : Fn} {sz : Nat} : ∀ (cs : List Int32), (∀ c, c ∈ cs → c ≠ -1) → ∀ {t : PS}, pP t ≤ sz → pP t ≤ pP (nds tp sz cs t) ∧ pP (nds tp sz cs t) ≤ sz ∧ pL (nds tp sz cs t) = pL t ∧ (pB t = true → nds tp sz cs t = t) := by
  intro cs
  induction cs with
  | nil => intro _ t h; exact ⟨Nat.le_refl _, h, rfl, fun _ => rfl⟩
  | cons c cs ih =>
    intro hc t h
    obtain ⟨a1, a2, a3, a4⟩ := nd_mono (tp := tp) (hc c List.mem_cons_self) h
    obtain ⟨b1, b2, b3, b4⟩ := ih (fun c h => hc c (List.mem_cons_of_mem _ h)) a2
    refine ⟨Nat.le_trans a1 b1, b2, b3.trans a3, fun b => ?_⟩
    show nds tp sz cs (nd tp sz c t) = t
    rw [a4 b] at b4 ⊢
    exact b4 b
theorem byt_ok : ∀ z, z < 9 → ((bytJS.getD z []).length = lenJS.getD z 0 ∧ lenJS.getD z 0 < 100) ∧ ∀ i, i < lenJS.getD z 0 → ((((bytJS.getD z []).getD i 0 &&& 255).toUInt32 % 65536).toInt32) = (bytJS.getD z []).getD i 0 ∧ narrow .char (.int ((bytJS.getD z []).getD i 0)) = .int ((bytJS.getD z []).getD i 0) := by decide
theorem ixL_cons (c : Int32) (cs : List Int32) (x : Int32) : ixL (c :: cs) x = if c = x then some 0 else (ixL cs x).map (· + 1) := rfl
theorem dropD {l : List Int32} {i : Nat} (hi : i < l.length) : l.drop i = l.getD i 0 :: l.drop (i + 1) ∧ l.getD i 0 ∈ l := by
  have e : l.getD i 0 = l[i] := by rw [List.getD_eq_getElem?_getD, List.getElem?_eq_getElem hi]; rfl
  rw [e]
  exact ⟨List.drop_eq_getElem_cons hi, List.getElem_mem hi⟩
theorem len_ok : ∀ z, z < 9 → nI (lenJS.getD z 0) >>> ((0 : Int32) &&& 31) = nI (lenJS.getD z 0) := by decide
theorem C_len {z : Nat} (hz : z < 9) {Q : Int32 → Prop} (h : Q (nI (lenJS.getD z 0))) : WX0_length_8abf5 z Q := by
  unfold WX0_length_8abf5 WX0_coder_7d493
  show Q (nI (lenJS.getD z 0) >>> ((0 : Int32) &&& 31))
  rw [len_ok z hz]; exact h
theorem C_char {z : Nat} (hz : z < 9) {i : Nat} (hi : i < lenJS.getD z 0) {Q : Int32 → Prop} (h : Q ((bytJS.getD z []).getD i 0)) : WX0_charAt_5068e z (nI i) Q := by
  obtain ⟨⟨b1, b2⟩, b3⟩ := byt_ok z hz
  obtain ⟨c1, c2⟩ := b3 i hi
  unfold WX0_charAt_5068e WX0_isLatin1_aae02
  refine br_f (by decide) ?_
  unfold WX1_charAt_3b067 WX0_checkIndex_df160 WX3_checkIndex_8e157
  refine br_f (nI_pos (by omega)) (br_t (nI_lt hi (by omega)) ⟨vp_in_nI hi (by omega), ?_⟩)
  rw [nI_clamp (by omega), c1]
  exact ⟨c2, c2, h⟩
theorem C_next_X1 {tp tape : Fn} {sz : Nat} (hT : ∀ k, k < sz → tape k = tp k) (hz : sz ≤ 120) {t : PS} (hp : pP t ≤ sz) {Q : Int32 → Prop} (h : Q (nx tp sz t)) : WX2_next_X1 (nI sz) (nI (pP t)) (fl t) tape Q := by
  unfold WX2_next_X1
  unfold nx at h
  cases b : pB t with
  | true =>
    rw [if_neg (by rw [b]; exact fun z => absurd z.1 (by decide))] at h
    rw [fl_t b]
    exact br_t (nI_pos' (by omega)) h
  | false =>
    rw [fl_f b]
    refine br_f (by decide) (br_f (nI_pos (by omega)) ?_)
    by_cases c : pP t < sz
    · rw [if_pos ⟨b, c⟩] at h
      refine br_f (nI_ge c (by omega)) (br_t (nI_lt (b := 120) (by omega) (by omega)) ⟨vp_in_nI (by omega) (by decide), ?_⟩)
      rw [nI_clamp (by omega), hT _ c]; exact h
    · rw [if_neg (fun z => c z.2)] at h
      exact br_t (nI_le (by omega) (by omega)) h
theorem C_fail_X1 {t : PS} (hp : pP t < 1000) {Q : Int32 → Prop} (h : Q (fl (bad t))) : WX2_fail_X1 (nI (pP t)) (fl t) Q := by
  unfold WX2_fail_X1
  rw [fl_bad] at h
  cases b : pB t with
  | true => rw [fl_t b]; exact br_t (nI_pos' (by omega)) h
  | false => rw [fl_f b]; exact br_f (by decide) h
theorem C_takes_X1 {tp tape : Fn} {sz : Nat} (hT : ∀ k, k < sz → tape k = tp k) (hz : sz ≤ 120) {t : PS} (hp : pP t ≤ sz) {c : Int32} {Q : Int32 → Int32 → Prop} (h1 : nx tp sz t = c → Q 1 (nI (pP (adv t)))) (h0 : nx tp sz t ≠ c → Q 0 (nI (pP t))) : WX2_takes_X1 c (nI sz) (nI (pP t)) (fl t) tape Q := by
  unfold WX2_takes_X1
  refine C_next_X1 hT hz hp (br_c (fun e => ?_) h0)
  rintro _ rfl
  rw [nI_1]
  exact h1 e
theorem C_needsAll_X1 {tp tape : Fn} {sz : Nat} (hT : ∀ k, k < sz → tape k = tp k) (hz : sz ≤ 120) {z : Nat} (hz9 : z < 9) (hm : ∀ c, c ∈ bytJS.getD z [] → c ≠ -1) {t : PS} (hp : pP t ≤ sz) {Q : Int32 → Int32 → Prop} (h : Q (nI (pP (nds tp sz (bytJS.getD z []) t))) (fl (nds tp sz (bytJS.getD z []) t))) : WX2_needsAll_X1 z (nI sz) (nI (pP t)) (fl t) tape Q := by
  obtain ⟨⟨b1, b2⟩, b3⟩ := byt_ok z hz9
  suffices g : ∀ (n i : Nat) (t : PS), i ≤ lenJS.getD z 0 → lenJS.getD z 0 < n + i → pP t ≤ sz → Q (nI (pP (nds tp sz ((bytJS.getD z []).drop i) t))) (fl (nds tp sz ((bytJS.getD z []).drop i) t)) → WX2_needsAll_X1_2 z (nI sz) tape Q n (nI i) (nI (pP t)) (fl t) from ⟨200, g 200 0 t (by omega) (by omega) hp h⟩
  intro n
  induction n with
  | zero => intro i t h1 h2; omega
  | succ n ih =>
    intro i t h1 h2 hp hq
    unfold WX2_needsAll_X1_2
    refine C_len hz9 ?_
    by_cases c : lenJS.getD z 0 ≤ i
    · have e : (bytJS.getD z []).drop i = [] := List.drop_eq_nil_of_le (by omega)
      rw [e] at hq
      exact br_t (nI_le c (by omega)) hq
    · have hi : i < (bytJS.getD z []).length := by omega
      have e : (bytJS.getD z []).drop i = (bytJS.getD z []).getD i 0 :: (bytJS.getD z []).drop (i + 1) := (dropD hi).1
      rw [e] at hq
      have hc : (bytJS.getD z []).getD i 0 ≠ -1 := hm _ (dropD hi).2
      obtain ⟨m1, m2, -⟩ := nd_mono (tp := tp) hc hp
      have fin : ∀ u, u = nd tp sz ((bytJS.getD z []).getD i 0) t → WX2_needsAll_X1_26 z (nI sz) tape (nI i) (nI (pP u)) (fl u) Q (WX2_needsAll_X1_2 z (nI sz) tape Q n) := by
        rintro _ rfl
        unfold WX2_needsAll_X1_26
        rintro _ rfl
        rw [nI_1]
        exact ih (i + 1) _ (by omega) (by omega) m2 hq
      refine br_f (nI_ge (by omega) (by omega)) (C_char hz9 (by omega) (C_takes_X1 hT hz hp (fun e => br_f (by decide) ?_) (fun e => br_t rfl (C_fail_X1 (by omega) ?_))))
      · have f := fin (adv t) (by unfold nd; rw [if_pos e])
        have n := nx_in (tp := tp) (sz := sz) (t := t) (by rw [e]; exact hc)
        rw [fl_f (t := adv t) n.1] at f
        rw [fl_f n.1]; exact f
      · exact fin (bad t) (by unfold nd; rw [if_neg e])
theorem C_digit_X1 {tp tape : Fn} {sz : Nat} (hT : ∀ k, k < sz → tape k = tp k) (hb : ∀ k, k < sz → ∃ b, b < 256 ∧ tp k = nI b) (hz : sz ≤ 120) {lo hi : Nat} (hlo : lo ≤ hi) (hhi : hi < 10) {t : PS} (hp : pP t ≤ sz) {Q : Int32 → Int32 → Int32 → Prop} (h : ∀ r, (pB (dgP tp sz lo hi t).2 = false → r = (dgP tp sz lo hi t).1) → Q r (nI (pP (dgP tp sz lo hi t).2)) (fl (dgP tp sz lo hi t).2)) : WX2_digit_X1 (nI lo) (nI hi) (nI sz) (nI (pP t)) (fl t) tape Q := by
  unfold WX2_digit_X1
  refine C_next_X1 hT hz hp ?_
  rintro _ rfl
  have hbad : ¬ (nI (48 + lo) ≤ nx tp sz t ∧ nx tp sz t ≤ nI (48 + hi)) → WX2_digit_X1_18 (nI lo) (nI sz) tape (nI (pP t)) (fl t) Q := by
    intro c
    unfold WX2_digit_X1_18
    refine C_fail_X1 (by omega) ?_
    unfold dgP at h
    rw [if_neg c] at h
    exact h _ (fun z => by cases z)
  by_cases c : nI (48 + lo) ≤ nx tp sz t ∧ nx tp sz t ≤ nI (48 + hi)
  · obtain ⟨v, v1, v2, v3, v4, v5⟩ := dig_of hlo hhi c.1 c.2
    unfold dgP at h
    rw [if_pos c] at h
    rw [v4] at h ⊢
    refine br_f (nI_nlt v1 (by omega)) (br_t (nI_le v2 (by omega)) ?_)
    rintro _ rfl
    rw [nI_1]
    have n := nx_in (tp := tp) (sz := sz) (t := t) (by intro z; rw [z] at c; exact absurd c.1 (by have := nI_pos (n := 48 + lo) (by omega); grind))
    have := h _ (fun _ => rfl)
    rw [fl_f (t := adv t) n.1] at this
    rw [fl_f n.1]; exact this
  · refine br_c (fun _ => hbad c) (fun c1 => ?_)
    refine br_f (fun c2 => c ?_) (hbad c)
    have hx : (-1 : Int32) ≤ nx tp sz t ∧ nx tp sz t ≤ nI 255 := by
      unfold nx
      by_cases q : pB t = false ∧ pP t < sz
      · rw [if_pos q]
        obtain ⟨b, b1, b2⟩ := hb _ q.2
        rw [b2]
        have := nI_pos (n := b) (by omega)
        exact ⟨by grind, nI_le (by omega) (by decide)⟩
      · rw [if_neg q]; decide
    have e1 : nI (48 + lo) = 48 + nI lo := by rw [← nI_add]; rfl
    have e2 : nI (48 + hi) = 48 + nI hi := by rw [← nI_add]; rfl
    have e3 : nI 255 = 255 := rfl
    have e4 : nI lo ≤ 9 := nI_le (b := 9) (by omega) (by decide)
    have e5 : nI hi ≤ 9 := nI_le (b := 9) (by omega) (by decide)
    have e6 : 0 ≤ nI lo := nI_pos' (by omega)
    have e7 : 0 ≤ nI hi := nI_pos' (by omega)
    rw [e1, e2]
    rw [e3] at hx
    constructor <;> grind
theorem C_needsEnd_X1 {t : PS} {sz : Nat} (hp : pP t ≤ sz) (hz : sz ≤ 120) {Q : Int32 → Prop} (h : Q (fl (endP sz t))) : WX2_needsEnd_X1 (nI sz) (nI (pP t)) (fl t) Q := by
  unfold WX2_needsEnd_X1
  unfold endP at h
  by_cases c : pP t < sz
  · rw [if_pos c] at h
    exact br_f (nI_ge c (by omega)) (C_fail_X1 (by omega) h)
  · rw [if_neg c] at h
    exact br_t (nI_le (by omega) (by omega)) h
theorem C_copy {a b : Fn} (m : Nat) (hm : m < 1000) {Q : Fn → Prop} (h : ∀ f : Fn, (∀ k, k < m → f k = a k) → (∀ k, m ≤ k → f k = b k) → Q f) : WX10_copyRow m m a b Q := by
  unfold WX10_copyRow
  have e : (if nI m < nI m then nI m else nI m) = nI m := by split <;> rfl
  rw [e, nI_clamp (by omega), show (0 : Int32).toNatClampNeg = 0 from rfl]
  refine ⟨nI_pos (by omega), by omega, by omega, h _ (fun k hk => ?_) (fun k hk => pk_cpy_out (by omega))⟩
  rw [pk_cpy_in (by omega) (by omega)]
  congr 1; omega
theorem C_oneOf_X1 {tp tape : Fn} {sz : Nat} (hT : ∀ k, k < sz → tape k = tp k) (hz : sz ≤ 120) {z : Nat} (hz9 : z < 9) {t : PS} (hp : pP t ≤ sz) {Q : Int32 → Int32 → Int32 → Prop} (h0 : ixL (bytJS.getD z []) (nx tp sz t) = none → Q 0 (nI (pP t)) (fl (bad t))) (h1 : ∀ w, ixL (bytJS.getD z []) (nx tp sz t) = some w → Q (nI w) (nI (pP (adv t))) (fl t)) : WX2_oneOf_X1 z (nI sz) (nI (pP t)) (fl t) tape Q := by
  obtain ⟨⟨b1, b2⟩, b3⟩ := byt_ok z hz9
  unfold WX2_oneOf_X1
  refine C_next_X1 hT hz hp ?_
  suffices g : ∀ (n i : Nat), i ≤ lenJS.getD z 0 → lenJS.getD z 0 < n + i → ixL (bytJS.getD z []) (nx tp sz t) = (ixL ((bytJS.getD z []).drop i) (nx tp sz t)).map (· + i) → WX2_oneOf_X1_7 z (nI sz) tape Q n (nx tp sz t) (nI i) (nI (pP t)) (fl t) from ⟨200, g 200 0 (by omega) (by omega) (by
    rw [List.drop_zero]
    cases ixL (bytJS.getD z []) (nx tp sz t) <;> rfl)⟩
  intro n
  induction n with
  | zero => intro i h1 h2; omega
  | succ n ih =>
    intro i h2 h3 he
    unfold WX2_oneOf_X1_7
    refine C_len hz9 ?_
    by_cases c : lenJS.getD z 0 ≤ i
    · have e : (bytJS.getD z []).drop i = [] := List.drop_eq_nil_of_le (by omega)
      rw [e] at he
      refine br_t (nI_le c (by omega)) ?_
      unfold WX2_oneOf_X1_45
      exact C_fail_X1 (by omega) (h0 he)
    · have hi : i < (bytJS.getD z []).length := by omega
      have e : (bytJS.getD z []).drop i = (bytJS.getD z []).getD i 0 :: (bytJS.getD z []).drop (i + 1) := (dropD hi).1
      rw [e, ixL_cons] at he
      refine br_f (nI_ge (by omega) (by omega)) (C_char hz9 (by omega) (br_c (fun c1 => ?_) (fun c1 => ?_)))
      · rw [if_pos c1] at he
        unfold WX2_oneOf_X1_27
        rintro _ rfl
        rw [nI_1]
        exact h1 i (by rw [he]; show some (0 + i) = some i; rw [Nat.zero_add])
      · rw [if_neg c1] at he
        rintro _ rfl
        rw [nI_1]
        refine ih (i + 1) (by omega) (by omega) ?_
        rw [he]
        cases ixL ((bytJS.getD z []).drop (i + 1)) (nx tp sz t) with
        | none => rfl
        | some w => show some (w + 1 + i) = some (w + (i + 1)); congr 1; omega
/-! the reader of rivers -/
theorem C_next_X4 {tp tape : Fn} {sz : Nat} (hT : ∀ k, k < sz → tape k = tp k) (hz : sz ≤ 120) {t : PS} (hp : pP t ≤ sz) {Q : Int32 → Prop} (h : Q (nx tp sz t)) : WX2_next_X4 (nI sz) (nI (pP t)) (fl t) tape Q := by
  unfold WX2_next_X4
  unfold nx at h
  cases b : pB t with
  | true =>
    rw [if_neg (by rw [b]; exact fun z => absurd z.1 (by decide))] at h
    rw [fl_t b]
    exact br_t (nI_pos' (by omega)) h
  | false =>
    rw [fl_f b]
    refine br_f (by decide) (br_f (nI_pos (by omega)) ?_)
    by_cases c : pP t < sz
    · rw [if_pos ⟨b, c⟩] at h
      refine br_f (nI_ge c (by omega)) (br_t (nI_lt (b := 120) (by omega) (by omega)) ⟨vp_in_nI (by omega) (by decide), ?_⟩)
      rw [nI_clamp (by omega), hT _ c]; exact h
    · rw [if_neg (fun z => c z.2)] at h
      exact br_t (nI_le (by omega) (by omega)) h
theorem C_fail_X4 {t : PS} (hp : pP t < 1000) {Q : Int32 → Prop} (h : Q (fl (bad t))) : WX2_fail_X4 (nI (pP t)) (fl t) Q := by
  unfold WX2_fail_X4
  rw [fl_bad] at h
  cases b : pB t with
  | true => rw [fl_t b]; exact br_t (nI_pos' (by omega)) h
  | false => rw [fl_f b]; exact br_f (by decide) h
theorem C_takes_X4 {tp tape : Fn} {sz : Nat} (hT : ∀ k, k < sz → tape k = tp k) (hz : sz ≤ 120) {t : PS} (hp : pP t ≤ sz) {c : Int32} {Q : Int32 → Int32 → Prop} (h1 : nx tp sz t = c → Q 1 (nI (pP (adv t)))) (h0 : nx tp sz t ≠ c → Q 0 (nI (pP t))) : WX2_takes_X4 c (nI sz) (nI (pP t)) (fl t) tape Q := by
  unfold WX2_takes_X4
  refine C_next_X4 hT hz hp (br_c (fun e => ?_) h0)
  rintro _ rfl
  rw [nI_1]
  exact h1 e
theorem C_needsAll_X4 {tp tape : Fn} {sz : Nat} (hT : ∀ k, k < sz → tape k = tp k) (hz : sz ≤ 120) {z : Nat} (hz9 : z < 9) (hm : ∀ c, c ∈ bytJS.getD z [] → c ≠ -1) {t : PS} (hp : pP t ≤ sz) {Q : Int32 → Int32 → Prop} (h : Q (nI (pP (nds tp sz (bytJS.getD z []) t))) (fl (nds tp sz (bytJS.getD z []) t))) : WX2_needsAll_X4 z (nI sz) (nI (pP t)) (fl t) tape Q := by
  obtain ⟨⟨b1, b2⟩, b3⟩ := byt_ok z hz9
  suffices g : ∀ (n i : Nat) (t : PS), i ≤ lenJS.getD z 0 → lenJS.getD z 0 < n + i → pP t ≤ sz → Q (nI (pP (nds tp sz ((bytJS.getD z []).drop i) t))) (fl (nds tp sz ((bytJS.getD z []).drop i) t)) → WX2_needsAll_X4_2 z (nI sz) tape Q n (nI i) (nI (pP t)) (fl t) from ⟨200, g 200 0 t (by omega) (by omega) hp h⟩
  intro n
  induction n with
  | zero => intro i t h1 h2; omega
  | succ n ih =>
    intro i t h1 h2 hp hq
    unfold WX2_needsAll_X4_2
    refine C_len hz9 ?_
    by_cases c : lenJS.getD z 0 ≤ i
    · have e : (bytJS.getD z []).drop i = [] := List.drop_eq_nil_of_le (by omega)
      rw [e] at hq
      exact br_t (nI_le c (by omega)) hq
    · have hi : i < (bytJS.getD z []).length := by omega
      have e : (bytJS.getD z []).drop i = (bytJS.getD z []).getD i 0 :: (bytJS.getD z []).drop (i + 1) := (dropD hi).1
      rw [e] at hq
      have hc : (bytJS.getD z []).getD i 0 ≠ -1 := hm _ (dropD hi).2
      obtain ⟨m1, m2, -⟩ := nd_mono (tp := tp) hc hp
      have fin : ∀ u, u = nd tp sz ((bytJS.getD z []).getD i 0) t → WX2_needsAll_X4_26 z (nI sz) tape (nI i) (nI (pP u)) (fl u) Q (WX2_needsAll_X4_2 z (nI sz) tape Q n) := by
        rintro _ rfl
        unfold WX2_needsAll_X4_26
        rintro _ rfl
        rw [nI_1]
        exact ih (i + 1) _ (by omega) (by omega) m2 hq
      refine br_f (nI_ge (by omega) (by omega)) (C_char hz9 (by omega) (C_takes_X4 hT hz hp (fun e => br_f (by decide) ?_) (fun e => br_t rfl (C_fail_X4 (by omega) ?_))))
      · have f := fin (adv t) (by unfold nd; rw [if_pos e])
        have n := nx_in (tp := tp) (sz := sz) (t := t) (by rw [e]; exact hc)
        rw [fl_f (t := adv t) n.1] at f
        rw [fl_f n.1]; exact f
      · exact fin (bad t) (by unfold nd; rw [if_neg e])
theorem C_digit_X4 {tp tape : Fn} {sz : Nat} (hT : ∀ k, k < sz → tape k = tp k) (hb : ∀ k, k < sz → ∃ b, b < 256 ∧ tp k = nI b) (hz : sz ≤ 120) {lo hi : Nat} (hlo : lo ≤ hi) (hhi : hi < 10) {t : PS} (hp : pP t ≤ sz) {Q : Int32 → Int32 → Int32 → Prop} (h : ∀ r, (pB (dgP tp sz lo hi t).2 = false → r = (dgP tp sz lo hi t).1) → Q r (nI (pP (dgP tp sz lo hi t).2)) (fl (dgP tp sz lo hi t).2)) : WX2_digit_X4 (nI lo) (nI hi) (nI sz) (nI (pP t)) (fl t) tape Q := by
  unfold WX2_digit_X4
  refine C_next_X4 hT hz hp ?_
  rintro _ rfl
  have hbad : ¬ (nI (48 + lo) ≤ nx tp sz t ∧ nx tp sz t ≤ nI (48 + hi)) → WX2_digit_X4_18 (nI lo) (nI sz) tape (nI (pP t)) (fl t) Q := by
    intro c
    unfold WX2_digit_X4_18
    refine C_fail_X4 (by omega) ?_
    unfold dgP at h
    rw [if_neg c] at h
    exact h _ (fun z => by cases z)
  by_cases c : nI (48 + lo) ≤ nx tp sz t ∧ nx tp sz t ≤ nI (48 + hi)
  · obtain ⟨v, v1, v2, v3, v4, v5⟩ := dig_of hlo hhi c.1 c.2
    unfold dgP at h
    rw [if_pos c] at h
    rw [v4] at h ⊢
    refine br_f (nI_nlt v1 (by omega)) (br_t (nI_le v2 (by omega)) ?_)
    rintro _ rfl
    rw [nI_1]
    have n := nx_in (tp := tp) (sz := sz) (t := t) (by intro z; rw [z] at c; exact absurd c.1 (by have := nI_pos (n := 48 + lo) (by omega); grind))
    have := h _ (fun _ => rfl)
    rw [fl_f (t := adv t) n.1] at this
    rw [fl_f n.1]; exact this
  · refine br_c (fun _ => hbad c) (fun c1 => ?_)
    refine br_f (fun c2 => c ?_) (hbad c)
    have hx : (-1 : Int32) ≤ nx tp sz t ∧ nx tp sz t ≤ nI 255 := by
      unfold nx
      by_cases q : pB t = false ∧ pP t < sz
      · rw [if_pos q]
        obtain ⟨b, b1, b2⟩ := hb _ q.2
        rw [b2]
        have := nI_pos (n := b) (by omega)
        exact ⟨by grind, nI_le (by omega) (by decide)⟩
      · rw [if_neg q]; decide
    have e1 : nI (48 + lo) = 48 + nI lo := by rw [← nI_add]; rfl
    have e2 : nI (48 + hi) = 48 + nI hi := by rw [← nI_add]; rfl
    have e3 : nI 255 = 255 := rfl
    have e4 : nI lo ≤ 9 := nI_le (b := 9) (by omega) (by decide)
    have e5 : nI hi ≤ 9 := nI_le (b := 9) (by omega) (by decide)
    have e6 : 0 ≤ nI lo := nI_pos' (by omega)
    have e7 : 0 ≤ nI hi := nI_pos' (by omega)
    rw [e1, e2]
    rw [e3] at hx
    constructor <;> grind
theorem C_needsEnd_X4 {t : PS} {sz : Nat} (hp : pP t ≤ sz) (hz : sz ≤ 120) {Q : Int32 → Prop} (h : Q (fl (endP sz t))) : WX2_needsEnd_X4 (nI sz) (nI (pP t)) (fl t) Q := by
  unfold WX2_needsEnd_X4
  unfold endP at h
  by_cases c : pP t < sz
  · rw [if_pos c] at h
    exact br_f (nI_ge c (by omega)) (C_fail_X4 (by omega) h)
  · rw [if_neg c] at h
    exact br_t (nI_le (by omega) (by omega)) h
theorem C_needs_X4 {tp tape : Fn} {sz : Nat} (hT : ∀ k, k < sz → tape k = tp k) (hz : sz ≤ 120) {t : PS} (hp : pP t ≤ sz) {c : Int32} (hc : c ≠ -1) {Q : Int32 → Int32 → Prop} (h : Q (nI (pP (nd tp sz c t))) (fl (nd tp sz c t))) : WX2_needs_X4 c (nI sz) (nI (pP t)) (fl t) tape Q := by
  unfold WX2_needs_X4
  unfold nd at h
  refine C_takes_X4 hT hz hp (fun e => br_f (by decide) ?_) (fun e => br_t rfl (C_fail_X4 (by omega) ?_))
  · rw [if_pos e] at h
    have n := nx_in (tp := tp) (sz := sz) (t := t) (by rw [e]; exact hc)
    rw [fl_f (t := adv t) n.1] at h
    rw [fl_f n.1]; exact h
  · rw [if_neg e] at h; exact h
