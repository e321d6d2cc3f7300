/-! ===== by hand: what a card of the model says ===== -/
theorem li_140' : (140 : Int32) = nI 140 := rfl
/-- the model's rows of card c -/
def picM (s : Fn) (c : Nat) (v : CV) : Prop := s (158 + c) = vKind v ∧ s (166 + c) = vV v ∧ s (174 + c) = nI (vN v) ∧ ∀ j, j < vN v → s (182 + 6 * c + j) = vDg v j ∧ s (230 + (6 * c + j)) = nI (vFr v j) ∧ s (278 + (6 * c + j)) = nI (vFr v j + vCn v j) ∧ ∀ k, vFr v j ≤ k → k < vFr v j + vCn v j → s (334 + 140 * c + k) = vSt v k
def leftM (c : Nat) (v : CV) (lc ll : Int32) : Prop := (vLeft v = none ∧ nI c ≠ lc) ∨ ∃ l, vLeft v = some l ∧ lc = nI c ∧ ll = nI l
/-- truths on a stack -/
def TB (f : Fn) (l : List Bool) : Prop := ∀ j, j < l.length → f j = b01 (l.getD (l.length - 1 - j) false)
theorem TB_push {f : Fn} {l : List Bool} (h : TB f l) (b : Bool) : TB (upd f l.length (b01 b)) (b :: l) := by
  intro j hj
  rw [List.length_cons] at hj ⊢
  by_cases c : j = l.length
  · subst c; rw [pk_us, show l.length + 1 - 1 - l.length = 0 by omega, List.getD_cons_zero]
  · rw [pk_un c, show l.length + 1 - 1 - j = (l.length - 1 - j) + 1 by omega, List.getD_cons_succ, h j (by omega)]
theorem TB_set {f : Fn} {l : List Bool} (h : TB f l) (m : Nat) (hm : m + 1 ≤ l.length) (b : Bool) : TB (upd f (l.length - (m + 1)) (b01 b)) (b :: l.drop (m + 1)) := by
  have h2 : TB f (l.drop (m + 1)) := by
    intro j hj
    rw [List.length_drop] at hj ⊢
    rw [h j (by omega)]
    congr 1
    rw [List.getD_eq_getElem?_getD, List.getD_eq_getElem?_getD, List.getElem?_drop]
    congr 2; omega
  have := TB_push h2 b
  rwa [List.length_drop] at this
theorem nar_b01 (b : Bool) : vp_nar .boolean (b01 b) = b01 b := isB_vp (by cases b; exact isB_0; exact isB_1)
theorem M_lineHolds {s : Fn} {c : Nat} {v : CV} (hc : c < 8) (hp : picM s c v) (hv : okV v) {j : Nat} (hj : j < vN v) {r t : Nat} (hr : r < 3) {lv wy bl mu hi : Int32} {levels ways : Fn} (hlv : levels r = lv) (hwy : ways r = wy) (hb01 : bl = 0 ∨ bl = 1) (hbell : ∀ Q : Int32 → Prop, Q bl → WX11_rings mu hi levels s Q) {Q : Int32 → Fn → Prop} (h : ∀ tr, Q (b01 (lineT v lv (nI t) wy bl j)) tr) (tr : Fn) : WX11_lineHolds (nI (6 * c + j)) (nI r) (nI t) mu hi s tr levels ways Q := by
  obtain ⟨-, -, -, p⟩ := hp
  obtain ⟨-, p1, p2, p3⟩ := p j hj
  obtain ⟨-, v1, v2⟩ := hv.2.2.2 j hj
  have h6 := hv.1.2
  unfold WX11_lineHolds
  have e6 : (6 * c + j) / 6 = c := by omega
  have q1 : 230 + (6 * c + j) < 1454 := by omega
  have q2 : 278 + (6 * c + j) < 1454 := by omega
  simp (disch := omega) only [li_6, li_230, li_334, li_140, li_0, pk_div, e6, nI_add, vI, q1, true_and, forall_eq, nI_clamp, p1, pk_mul]
  suffices g : ∀ (n m i : Nat) (tr : Fn) (l : List Bool), i + m = vFr v j + vCn v j → vFr v j ≤ i → m < n → TB tr l → okA (vSt v) m i l.length 1 → l.length ≤ 13 → (∀ tr, Q (b01 ((evS (vSt v) (fun t' => psT t' lv (nI t) wy bl) m i l).getD 0 false)) tr) → WX11_lineHolds_31 (nI (6 * c + j)) (nI r) (nI t) mu hi s levels ways Q n (nI l.length) (nI c) (nI (334 + 140 * c + i)) tr from
    ⟨200, g 200 (vCn v j) (vFr v j) tr [] rfl (Nat.le_refl _) (by omega) (fun k hk => absurd hk (Nat.not_lt_zero k)) v2 (by decide) h⟩
  intro n
  induction n with
  | zero => intro m i tr l h1 h2 h3; omega
  | succ n ih =>
    intro m i tr l h1 h2 h3 hs ho hl hq
    unfold WX11_lineHolds_31
    simp (disch := omega) only [li_278, li_334, li_140, nI_add, pk_mul, vI, q2, true_and, nI_clamp, p2]
    cases m with
    | zero =>
      refine br_t (nI_le (by omega) (by omega)) ?_
      have hl1 : l.length = 1 := ho
      have e := hs 0 (by omega)
      rw [show l.length - 1 - 0 = 0 by omega] at e
      simp only [evS] at hq
      show isB (tr 0) ∧ Q (tr 0) tr
      rw [e]
      exact ⟨by cases l.getD 0 false; exact isB_0; exact isB_1, hq tr⟩
    | succ m =>
      refine br_f (nI_ge (by omega) (by omega)) ⟨by omega, ?_⟩
      rw [p3 i h2 (by omega)]
      rintro _ rfl
      simp only [evS] at hq
      have nxt : ∀ (tr' : Fn) (l' : List Bool), TB tr' l' → okA (vSt v) m (i + 1) l'.length 1 → l'.length ≤ 13 → l' = opS (fun t' => psT t' lv (nI t) wy bl) (vSt v i) l → ∀ x3, x3 = nI l'.length → WX11_lineHolds_317 (nI (6 * c + j)) (nI r) (nI t) mu hi s levels ways x3 (nI c) (nI (334 + 140 * c + i)) tr' Q (WX11_lineHolds_31 (nI (6 * c + j)) (nI r) (nI t) mu hi s levels ways Q n) := by
        intro tr' l' a1 a2 a3 a4 x3 e3
        subst e3
        unfold WX11_lineHolds_317
        rintro _ rfl
        rw [nI_1]
        refine ih m (i + 1) tr' l' (by omega) (by omega) (by omega) a1 a2 a3 ?_
        rw [a4]; exact hq
      rcases ho with ⟨o1, o2, o3⟩ | ⟨o1, o2, o3⟩ | ⟨⟨t', t1, t2, t3⟩, o2, o3⟩
      · rw [o1]
        refine br_t (by decide) (br_t rfl ?_)
        have e1 : nI l.length - 1 = nI (l.length - 1) := pk_sub (b := 1) o2
        rw [e1]
        have e := hs (l.length - 1) (by omega)
        rw [show l.length - 1 - (l.length - 1) = 0 by omega] at e
        refine ⟨vp_in_nI (by omega) (by decide), ?_⟩
        rw [nI_clamp (by omega), e]
        have fin : ∀ s2, s2 = b01 (!(l.getD 0 false)) → WX11_lineHolds_242 (nI (6 * c + j)) (nI r) (nI t) mu hi s levels ways (nI l.length) (nI c) (nI (334 + 140 * c + i)) (nI (l.length - 1)) s2 tr Q (WX11_lineHolds_31 (nI (6 * c + j)) (nI r) (nI t) mu hi s levels ways Q n) := by
          rintro _ rfl
          unfold WX11_lineHolds_242
          refine ⟨vp_in_nI (by omega) (by decide), ?_⟩
          rw [nar_b01, nI_clamp (by omega)]
          refine nxt _ _ (TB_set hs 0 o2 _) ?_ ?_ (by rw [o1]; rfl) _ ?_
          · rw [List.length_cons, List.length_drop, show l.length - (0 + 1) + 1 = l.length by omega]; exact o3
          · rw [List.length_cons, List.length_drop]; omega
          · rw [List.length_cons, List.length_drop, show l.length - (0 + 1) + 1 = l.length by omega]
        cases hb : l.getD 0 false with
        | false => exact br_t rfl (fin _ (by rw [hb]; rfl))
        | true => exact br_f (by decide) (fin _ (by rw [hb]; rfl))
      · have ea := hs (l.length - 2) (by omega)
        have eb := hs (l.length - 1) (by omega)
        rw [show l.length - 1 - (l.length - 2) = 1 by omega] at ea
        rw [show l.length - 1 - (l.length - 1) = 0 by omega] at eb
        have e1 : nI l.length + (-1) = nI (l.length - 1) := by
          obtain ⟨z, hz⟩ : ∃ z, l.length = z + 1 := ⟨l.length - 1, by omega⟩
          rw [hz]; exact pk_m1 z
        have e2 : nI (l.length - 1) - 1 = nI (l.length - 2) := by rw [li_1, pk_sub (by omega)]; congr 1
        have fin : ∀ s2 b, s2 = b01 b → b :: l.drop 2 = opS (fun t' => psT t' lv (nI t) wy bl) (vSt v i) l → WX11_lineHolds_316 (nI (6 * c + j)) (nI r) (nI t) mu hi s levels ways (nI (l.length - 1)) (nI c) (nI (334 + 140 * c + i)) (nI (l.length - 2)) s2 tr Q (WX11_lineHolds_31 (nI (6 * c + j)) (nI r) (nI t) mu hi s levels ways Q n) := by
          rintro _ b rfl eo
          unfold WX11_lineHolds_316
          refine ⟨vp_in_nI (by omega) (by decide), ?_⟩
          rw [nar_b01, nI_clamp (by omega)]
          refine nxt _ _ (TB_set hs 1 o2 _) ?_ ?_ eo _ ?_
          · rw [List.length_cons, List.length_drop, show l.length - (1 + 1) + 1 = l.length - 1 by omega]; exact o3
          · rw [List.length_cons, List.length_drop]; omega
          · rw [List.length_cons, List.length_drop, show l.length - (1 + 1) + 1 = l.length - 1 by omega]
        rcases o1 with o1 | o1
        · rw [o1]
          refine br_t (by decide) (br_f (by decide) ?_)
          rintro _ e3
          rw [e1] at e3; subst e3
          refine br_t rfl ?_
          rw [e2]
          refine ⟨vp_in_nI (by omega) (by decide), ?_⟩
          rw [nI_clamp (by omega), ea, nI_clamp (by omega), eb]
          unfold WX11_lineHolds_287
          have eo : ∀ b, b = (l.getD 1 false && l.getD 0 false) → b :: l.drop 2 = opS (fun t' => psT t' lv (nI t) wy bl) (vSt v i) l := by rintro _ rfl; rw [o1]; rfl
          cases hb : l.getD 1 false with
          | false => exact br_t rfl (fin _ false rfl (eo _ (by rw [hb]; rfl)))
          | true =>
            refine br_f (by decide) ⟨vp_in_nI (by omega) (by decide), ?_⟩
            cases hb' : l.getD 0 false with
            | false => exact br_t rfl (fin _ false rfl (eo _ (by rw [hb, hb']; rfl)))
            | true => exact br_f (by decide) (fin _ true rfl (eo _ (by rw [hb, hb']; rfl)))
        · rw [o1]
          refine br_t (by decide) (br_f (by decide) ?_)
          rintro _ e3
          rw [e1] at e3; subst e3
          refine br_f (by decide) ?_
          rw [e2]
          refine ⟨vp_in_nI (by omega) (by decide), ?_⟩
          rw [nI_clamp (by omega), ea, nI_clamp (by omega), eb]
          unfold WX11_lineHolds_311
          have eo : ∀ b, b = (l.getD 1 false || l.getD 0 false) → b :: l.drop 2 = opS (fun t' => psT t' lv (nI t) wy bl) (vSt v i) l := by rintro _ rfl; rw [o1]; rfl
          cases hb : l.getD 1 false with
          | true => exact br_f (by decide) (fin _ true rfl (eo _ (by rw [hb]; rfl)))
          | false =>
            refine br_t rfl ⟨vp_in_nI (by omega) (by decide), ?_⟩
            cases hb' : l.getD 0 false with
            | false => exact br_t rfl (fin _ false rfl (eo _ (by rw [hb, hb']; rfl)))
            | true => exact br_f (by decide) (fin _ true rfl (eo _ (by rw [hb, hb']; rfl)))
      · rw [t3]
        refine br_f (nI_pos (by omega)) ?_
        rw [show nI t' - nI t' / 4 * 4 = nI (t' % 4) from pk_rem (d := 4) (by omega) (by decide) (by decide)]
        rintro _ rfl
        have n1 : ¬ nI t' < 0 := nI_pos (by omega)
        have eo : psT t' lv (nI t) wy bl :: l = opS (fun t' => psT t' lv (nI t) wy bl) (vSt v i) l := by
          rw [t3]
          unfold opS
          rw [if_neg (fun z => n1 (by rw [z]; decide)), if_neg (fun z => n1 (by rw [z]; decide)), if_neg (fun z => n1 (by rw [z]; decide)), nI_clamp (by omega)]
        have f2 : ∀ s2, s2 = b01 (psT t' lv (nI t) wy bl) → WX11_lineHolds_206 (nI (6 * c + j)) (nI r) (nI t) mu hi s levels ways (nI l.length) (nI c) (nI (334 + 140 * c + i)) (nI l.length) s2 tr Q (WX11_lineHolds_31 (nI (6 * c + j)) (nI r) (nI t) mu hi s levels ways Q n) := by
          rintro _ rfl
          unfold WX11_lineHolds_206
          refine ⟨vp_in_nI (by omega) (by decide), ?_⟩
          rintro _ rfl
          rw [nar_b01, nI_clamp (by omega), nI_1]
          exact nxt _ _ (TB_push hs _) (by rw [List.length_cons]; exact o3) (by rw [List.length_cons]; omega) eo _ (by rw [List.length_cons])
        have f3 : ∀ is, psT t' lv (nI t) wy bl = (if t' / 4 % 4 = 0 then decide (is < nI (t' / 16)) else if t' / 4 % 4 = 1 then decide (is = nI (t' / 16)) else decide (nI (t' / 16) < is)) → WX11_lineHolds_131 (nI (6 * c + j)) (nI r) (nI t) mu hi s levels ways (nI l.length) (nI c) (nI (334 + 140 * c + i)) (nI t') is tr Q (WX11_lineHolds_31 (nI (6 * c + j)) (nI r) (nI t) mu hi s levels ways Q n) := by
          intro is hp
          unfold WX11_lineHolds_131
          rw [show nI t' / 4 = nI (t' / 4) from pk_div (d := 4) (by omega) (by decide) (by decide), show nI t' / 16 = nI (t' / 16) from pk_div (d := 16) (by omega) (by decide) (by decide), show nI (t' / 4) - nI (t' / 4) / 4 * 4 = nI (t' / 4 % 4) from pk_rem (d := 4) (by omega) (by decide) (by decide)]
          rintro _ rfl _ rfl
          rcases (show t' / 4 % 4 = 0 ∨ t' / 4 % 4 = 1 ∨ t' / 4 % 4 = 2 by omega) with d | d | d
          · rw [d] at hp ⊢
            rw [if_pos rfl] at hp
            refine br_t rfl (br_c (fun d2 => f2 _ ?_) (fun d2 => f2 _ ?_))
            · rw [hp, decide_eq_false (by grind)]; rfl
            · rw [hp, decide_eq_true (by grind)]; rfl
          · rw [d] at hp ⊢
            rw [if_neg (by decide), if_pos rfl] at hp
            refine br_f (by decide) (br_t rfl (br_c (fun d2 => f2 _ ?_) (fun d2 => f2 _ ?_)))
            · rw [hp, decide_eq_true d2]; rfl
            · rw [hp, decide_eq_false d2]; rfl
          · rw [d] at hp ⊢
            rw [if_neg (by decide), if_neg (by decide)] at hp
            refine br_f (by decide) (br_f (by decide) (br_c (fun d2 => f2 _ ?_) (fun d2 => f2 _ ?_)))
            · rw [hp, decide_eq_false (by grind)]; rfl
            · rw [hp, decide_eq_true (by grind)]; rfl
        rcases (show t' % 4 = 0 ∨ t' % 4 = 1 ∨ t' % 4 = 2 ∨ t' % 4 = 3 by omega) with d | d | d | d
        · have := f3 lv (by unfold psT; rw [d]; rfl)
          rw [d]
          refine br_t rfl ⟨hr, ?_⟩
          rw [hlv]; exact this
        · have := f3 (nI t) (by unfold psT; rw [d]; rfl)
          rw [d]
          exact br_f (by decide) (br_t rfl this)
        · have := f3 wy (by unfold psT; rw [d]; rfl)
          rw [d]
          refine br_f (by decide) (br_f (by decide) (br_t rfl ⟨hr, ?_⟩))
          rw [hwy]; exact this
        · have := f3 bl (by unfold psT; rw [d]; rfl)
          rw [d]
          refine br_f (by decide) (br_f (by decide) (br_f (by decide) (hbell _ ?_)))
          rcases hb01 with rfl | rfl
          · exact br_t rfl this
          · exact br_f (by decide) this
