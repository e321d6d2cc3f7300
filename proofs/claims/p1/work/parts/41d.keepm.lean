/-! ===== by hand: the keepers of the model ===== -/
theorem M_byLines {s : Fn} {c : Nat} {v : CV} (hc : c < 8) (hp : picM s c v) (hv : okV v) {lc ll : Int32} (hlm : leftM c v lc ll) {r t : Nat} (hr : r < 3) {lv wy bl mu hi : Int32} {levels ways : Fn} (hlv : levels r = lv) (hwy : ways r = wy) (hb01 : bl = 0 ∨ bl = 1) (hbell : ∀ Q : Int32 → Prop, Q bl → WX11_rings mu hi levels s Q) {Q : Int32 → Fn → Prop} (h : ∀ tr, Q (byL v lv (nI t) wy bl (vN v) 0) tr) (tr : Fn) : WX11_byLines (nI c) (nI r) (nI t) lc ll mu hi s tr levels ways Q := by
  have h6 := hv.1.2
  obtain ⟨-, pv, pn, p⟩ := id hp
  suffices g : ∀ (n m j : Nat) (tr : Fn), j + m = vN v → m < n → (∀ tr, Q (byL v lv (nI t) wy bl m j) tr) → WX11_byLines_2 (nI c) (nI r) (nI t) lc ll mu hi s levels ways Q n (nI j) tr from ⟨8, g 8 (vN v) 0 tr (by omega) (by omega) h⟩
  intro n
  induction n with
  | zero => intro m j tr h1 h2; omega
  | succ n ih =>
    intro m j tr h1 h2 hq
    unfold WX11_byLines_2
    have b1 : 174 + c < 1454 := by omega
    have b2 : 166 + c < 1454 := by omega
    simp (disch := omega) only [li_174, nI_add, vI, b1, true_and, nI_clamp, pn]
    cases m with
    | zero =>
      refine br_t (nI_le (by omega) (by omega)) ?_
      unfold WX11_byLines_68
      simp (disch := omega) only [li_166, nI_add, vI, b2, true_and, nI_clamp, pv]
      exact hq tr
    | succ m =>
      have hd := (p j (by omega)).1
      unfold byL at hq
      refine br_f (nI_ge (by omega) (by omega)) ?_
      have nxt : (∀ tr, Q (byL v lv (nI t) wy bl m (j + 1)) tr) → ∀ tr, WX11_byLines_62 (nI c) (nI r) (nI t) lc ll mu hi s levels ways (nI j) tr Q (WX11_byLines_2 (nI c) (nI r) (nI t) lc ll mu hi s levels ways Q n) := by
        intro hq tr
        unfold WX11_byLines_62
        rintro _ rfl
        rw [nI_1]
        exact ih m (j + 1) tr (by omega) (by omega) hq
      have go : vLeft v ≠ some j → WX11_byLines_32 (nI c) (nI r) (nI t) lc ll mu hi s levels ways (nI j) tr Q (WX11_byLines_2 (nI c) (nI r) (nI t) lc ll mu hi s levels ways Q n) := by
        intro hne
        unfold WX11_byLines_32
        rw [show (6 : Int32) * nI c + nI j = nI (6 * c + j) by rw [li_6, pk_mul, nI_add]]
        refine M_lineHolds hc hp hv (by omega) hr hlv hwy hb01 hbell (fun tr => ?_) tr
        cases hb : lineT v lv (nI t) wy bl j with
        | false =>
          refine br_t rfl (nxt (fun tr => ?_) tr)
          have := hq tr
          rwa [if_neg (fun z => by rw [hb] at z; exact absurd z.2 (by decide))] at this
        | true =>
          refine br_f (by decide) ?_
          unfold WX11_byLines_46
          have b3 : 182 + 6 * c + j < 1454 := by omega
          simp (disch := omega) only [li_182, li_6, pk_mul, nI_add, vI, b3, true_and, nI_clamp, hd]
          have := hq tr
          rwa [if_pos ⟨hne, hb⟩] at this
      rcases hlm with ⟨l1, l2⟩ | ⟨l, l1, l2, l3⟩
      · exact br_f l2 (go (by rw [l1]; exact fun z => by cases z))
      · have hl := hv.2.2.1 l l1
        subst l2 l3
        refine br_t rfl ?_
        by_cases z : j = l
        · subst z
          refine br_t rfl (nxt (fun tr => ?_) tr)
          have := hq tr
          rwa [if_neg (fun z => z.1 l1)] at this
        · refine br_f (fun e => z ((nI_eq (by omega) (by omega)).mp e)) (go ?_)
          rw [l1]; exact fun e => z (Option.some.inj e).symm
theorem M_byTurns {s : Fn} {c : Nat} {v : CV} (hc : c < 8) (hp : picM s c v) (hv : okV v) {lc ll : Int32} (hlm : leftM c v lc ll) {t : Nat} (ht : t < 2 ^ 20) {Q : Int32 → Prop} (h : Q (byT v t)) : WX11_byTurns (nI c) (nI t) lc ll s Q := by
  have h6 := hv.1
  obtain ⟨-, pv, pn, p⟩ := id hp
  have b1 : 174 + c < 1454 := by omega
  have b2 : 166 + c < 1454 := by omega
  unfold WX11_byTurns WX11_byTurns_13
  unfold byT at h
  rcases hlm with ⟨l1, l2⟩ | ⟨l, l1, l2, l3⟩
  · rw [l1] at h
    replace h : Q (if vN v = 0 then vV v else vDg v (t % vN v)) := h
    rw [if_neg (by omega)] at h
    have hm := Nat.mod_lt t (show 0 < vN v by omega)
    have hd := (p _ hm).1
    refine br_f l2 (br_t rfl ?_)
    simp (disch := omega) only [li_174, nI_add, vI, b1, true_and, nI_clamp, pn]
    unfold WX11_byTurns_43
    refine br_f (nI_ne0 (by omega) (by omega)) ⟨nI_ne0 (by omega) (by omega), ?_⟩
    rw [pk_rem (by omega) (by omega) (by omega)]
    rintro _ rfl
    refine br_t rfl ?_
    have b3 : 182 + 6 * c + t % vN v < 1454 := by omega
    simp (disch := omega) only [li_182, li_6, pk_mul, nI_add, vI, b3, true_and, nI_clamp, hd]
    exact h
  · have hl := hv.2.2.1 l l1
    rw [l1] at h
    replace h : Q (if vN v - 1 = 0 then vV v else vDg v (if l ≤ t % (vN v - 1) then t % (vN v - 1) + 1 else t % (vN v - 1))) := h
    subst l2 l3
    refine br_t rfl (br_f (by decide) ?_)
    simp (disch := omega) only [li_174, nI_add, vI, b1, true_and, nI_clamp, pn]
    rw [show nI (vN v) - 1 = nI (vN v - 1) from pk_sub (b := 1) (by omega)]
    unfold WX11_byTurns_43
    by_cases z : vN v - 1 = 0
    · rw [if_pos z] at h
      rw [z]
      refine br_t rfl ?_
      simp (disch := omega) only [li_166, nI_add, vI, b2, true_and, nI_clamp, pv]
      exact h
    · rw [if_neg z] at h
      have hm := Nat.mod_lt t (show 0 < vN v - 1 by omega)
      refine br_f (nI_ne0 (by omega) (by omega)) ⟨nI_ne0 (by omega) (by omega), ?_⟩
      rw [pk_rem (by omega) (by omega) (by omega)]
      rintro _ rfl
      refine br_f (by decide) ?_
      by_cases c1 : l ≤ t % (vN v - 1)
      · rw [if_pos c1] at h
        have hd := (p (t % (vN v - 1) + 1) (by omega)).1
        refine br_f (nI_nlt c1 (by omega)) ?_
        have b3 : 182 + 6 * c + (t % (vN v - 1) + 1) < 1454 := by omega
        simp (disch := omega) only [li_1, li_182, li_6, pk_mul, nI_add, vI, b3, true_and, nI_clamp, hd]
        exact h
      · rw [if_neg c1] at h
        have hd := (p (t % (vN v - 1)) (by omega)).1
        refine br_t (nI_lt (by omega) (by omega)) ?_
        have b3 : 182 + 6 * c + t % (vN v - 1) < 1454 := by omega
        simp (disch := omega) only [li_182, li_6, pk_mul, nI_add, vI, b3, true_and, nI_clamp, hd]
        exact h
theorem M_rising {s : Fn} {c : Nat} {v : CV} (hc : c < 8) (hp : picM s c v) (hv : okV v) {lc ll : Int32} (hlm : leftM c v lc ll) {r t : Nat} (hr : r < 3) {lv wy bl mu hi : Int32} {levels ways : Fn} (hlv : levels r = lv) (hwy : ways r = wy) (hb01 : bl = 0 ∨ bl = 1) (hbell : ∀ Q : Int32 → Prop, Q bl → WX11_rings mu hi levels s Q) {Q : Int32 → Fn → Prop} (h : ∀ tr, Q (byR wy (byL v lv (nI t) wy bl (vN v) 0)) tr) (tr : Fn) : WX11_rising (nI c) (nI r) (nI t) lc ll mu hi s tr levels ways Q := by
  unfold WX11_rising
  refine M_byLines hc hp hv hlm hr hlv hwy hb01 hbell (fun tr => ?_) tr
  refine ⟨vp_in_nI hr (by decide), ?_⟩
  rw [nI_clamp (by omega), hwy]
  have hq := h tr
  unfold byR at hq
  refine br_c (fun c => br_c (fun c2 => ?_) (fun c2 => ?_)) (fun c => ?_)
  · rw [if_pos c, if_neg (by grind)] at hq; exact hq
  · rw [if_pos c, if_pos (by grind)] at hq; exact hq
  · rwa [if_neg c] at hq
theorem M_boardsBy {s : Fn} {c : Nat} {v : CV} (hc : c < 8) (hp : picM s c v) (hv : okV v) {lc ll : Int32} (hlm : leftM c v lc ll) {r t : Nat} (hr : r < 3) (ht : t < 2 ^ 20) {lv wy bl mu hi w : Int32} {levels ways bo : Fn} (hlv : levels r = lv) (hwy : ways r = wy) (hbo : bo r = w) (hb01 : bl = 0 ∨ bl = 1) (hbell : ∀ Q : Int32 → Prop, Q bl → WX11_rings mu hi levels s Q) {Q : Int32 → Fn → Prop} (h : ∀ tr, Q (kpr v lv t wy bl w) tr) (tr : Fn) : WX11_boardsBy (nI c) (nI r) (nI t) lc ll mu hi bo s tr levels ways Q := by
  have pk := hp.1
  have pv := hp.2.1
  have b1 : 158 + c < 1454 := by omega
  have b2 : 166 + c < 1454 := by omega
  unfold WX11_boardsBy
  refine ⟨vp_in_nI hr (by decide), ?_⟩
  simp (disch := omega) only [li_158, li_166, nI_add, vI, b1, b2, true_and, nI_clamp, pk, pv, hbo]
  rintro _ rfl _ rfl
  unfold kpr at h
  refine br_c (fun c1 => M_byLines hc hp hv hlm hr hlv hwy hb01 hbell (fun tr => ?_) tr) (fun c1 => br_c (fun c2 => M_rising hc hp hv hlm hr hlv hwy hb01 hbell (fun tr => ?_) tr) (fun c2 => br_c (fun c3 => M_rising hc hp hv hlm hr hlv hwy hb01 hbell (fun tr => ?_) tr) (fun c3 => br_c (fun c4 => hbell _ ?_) (fun c4 => br_c (fun c5 => M_byTurns hc hp hv hlm ht ?_) (fun c5 => br_c (fun c6 => ?_) (fun c6 => ?_))))))
  · have hq := h tr; rwa [if_pos c1] at hq
  · have hq := h tr; rwa [if_neg c1, if_pos c2] at hq
  · have hq := h tr
    rw [if_neg c1, if_neg c2, if_pos c3] at hq
    refine br_c (fun d1 => br_c (fun d2 => ?_) (fun d2 => ?_)) (fun d1 => ?_)
    · rwa [if_pos d1, if_pos d2] at hq
    · rwa [if_pos d1, if_neg d2] at hq
    · rwa [if_neg d1] at hq
  · rcases hb01 with rfl | rfl
    · refine br_t rfl (M_byLines hc hp hv hlm hr hlv hwy (Or.inl rfl) hbell (fun tr => ?_) tr)
      have hq := h tr
      rwa [if_neg c1, if_neg c2, if_neg c3, if_pos c4, if_neg (by decide)] at hq
    · refine br_f (by decide) ?_
      have hq := h tr
      rwa [if_neg c1, if_neg c2, if_neg c3, if_pos c4, if_pos rfl] at hq
  · have hq := h tr
    rwa [if_neg c1, if_neg c2, if_neg c3, if_neg c4, if_pos c5] at hq
  · rw [show nI t - nI t / 2 * 2 = nI (t % 2) from pk_rem (d := 2) (by omega) (by decide) (by decide)]
    refine br_c (fun c7 => M_byTurns hc hp hv hlm ht ?_) (fun c7 => ?_)
    · have c8 : t % 2 = 0 := by rw [li_0, nI_eq (by omega) (by omega)] at c7; exact c7
      have hq := h tr
      rwa [if_neg c1, if_neg c2, if_neg c3, if_neg c4, if_neg c5, if_pos c6, if_pos c8] at hq
    · have c8 : ¬ t % 2 = 0 := fun z => c7 (by rw [z]; rfl)
      have hq := h tr
      rwa [if_neg c1, if_neg c2, if_neg c3, if_neg c4, if_neg c5, if_pos c6, if_neg c8] at hq
  · have hq := h tr
    rwa [if_neg c1, if_neg c2, if_neg c3, if_neg c4, if_neg c5, if_neg c6] at hq
