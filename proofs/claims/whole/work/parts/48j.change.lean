/-! ===== by hand: a card changed ===== -/
def vSet (V : Nat → CV) (c : Nat) (v : CV) : Nat → CV := fun q => if q = c then v else V q
theorem vSet_s {V : Nat → CV} {c : Nat} {v : CV} : vSet V c v c = v := if_pos rfl
theorem vSet_n {V : Nat → CV} {c q : Nat} {v : CV} (h : q ≠ c) : vSet V c v q = V q := if_neg h
theorem okH_set {R C c : Nat} {hg : Fn} {V : Nat → CV} {v : CV} (h : okH R C hg V) (hv : okV v) : okH R C hg (vSet V c v) := by
  intro r hr
  rcases h r hr with h | ⟨q, q1, q2, q3⟩
  · exact Or.inl h
  · refine Or.inr ⟨q, q1, q2, ?_⟩
    by_cases e : q = c
    · rw [e, vSet_s]; exact hv
    · rw [vSet_n e]; exact q3
theorem MWr_of2 {s s' : Fn} {R C : Nat} {st hi lc ll mu : Int32} {m : Bool} {hg : Fn} {V : Nat → CV} (hs : s' 0 = nI R) (h3 : R ≤ 3) (hC : C ≤ 8) (hmu : mu = 0 ↔ m = false) (hh : okH R C hg V) (hp : ∀ c, c < C → picM s' c (V c) ∧ leftM c (V c) lc ll) (e1 : ∀ r, r < R → s' (133 + r) = s (133 + r)) (e2 : ∀ r, r < R → s' (136 + r) = s (136 + r)) (e3 : ∀ r, r < R → s' (145 + r) = hg r) : MWr (rvM s R st hi m hg V) s' st lc ll mu hi := by
  refine ⟨hs, hmu, fun r hr => ?_⟩
  replace hr : r < R := hr
  rw [e1 r hr, e2 r hr, e3 r hr]
  refine ⟨rfl, rfl, ?_⟩
  by_cases c : hg r = -1 ∨ ((st >>> (nI r &&& 31)) &&& 1) = 1
  · exact Or.inl ⟨c, fun lv h wy bl w => if_pos c⟩
  · rcases hh r hr with h | ⟨q, q1, q2, q3⟩
    · exact absurd (Or.inl h) c
    · refine Or.inr ⟨q, V q, q2, fun z => c (Or.inr z), by omega, (hp q q1).1, q3, (hp q q1).2, fun lv h wy bl w ht => ?_⟩
      show (if hg r = -1 ∨ ((st >>> (nI r &&& 31)) &&& 1) = 1 then w else kpr (V (hg r).toNatClampNeg) lv (nI h).toNatClampNeg wy bl w) = _
      rw [if_neg c, q2, nI_clamp (by omega), nI_clamp (by omega)]
theorem C_put {cn : Nat} {tc : Nat → Option Nat} {ce : Nat → CT} {cin : Nat → Prop} {Q : (Nat → Option Nat) → Prop} (hn : cin cn) (hc : ∀ r, r < 3 → ∀ a, tc r = some a → cin a) (hQ : ∀ tc' : Nat → Option Nat, (∀ r, r < 3 → (tc r = none → tc' r = none) ∧ ∀ a, tc r = some a → (ct_number (ce a) = ct_number (ce cn) → tc' r = some cn) ∧ (ct_number (ce a) ≠ ct_number (ce cn) → tc' r = some a)) → Q tc') : WX7_putInstead cn tc ce cin Q := by
  suffices g : ∀ (n i : Nat) (t : Nat → Option Nat), i ≤ 3 → 3 < n + i → (∀ r, r < i → (tc r = none → t r = none) ∧ ∀ a, tc r = some a → (ct_number (ce a) = ct_number (ce cn) → t r = some cn) ∧ (ct_number (ce a) ≠ ct_number (ce cn) → t r = some a)) → (∀ r, i ≤ r → t r = tc r) → WX7_putInstead_2 cn ce cin Q n (nI i) t from ⟨4, g 4 0 tc (by decide) (by decide) (fun r h => absurd h (Nat.not_lt_zero r)) (fun r _ => rfl)⟩
  intro n
  induction n with
  | zero => intro i t h1 h2; omega
  | succ n ih =>
    intro i t hi hn' hd hk
    unfold WX7_putInstead_2
    by_cases c3 : 3 ≤ i
    · exact br_t (nI_le (a := 3) c3 (by omega)) (hQ t (fun r hr => hd r (by omega)))
    · have v3 : vp_in (nI i) 3 := vp_in_nI (by omega) (by decide)
      refine br_f (nI_ge (b := 3) (by omega) (by decide)) ⟨v3, ?_⟩
      rw [nI_clamp (n := i) (by omega), hk i (Nat.le_refl _)]
      have go : ∀ t' : Nat → Option Nat, (∀ r, r ≠ i → t' r = t r) → ((tc i = none → t' i = none) ∧ ∀ a, tc i = some a → (ct_number (ce a) = ct_number (ce cn) → t' i = some cn) ∧ (ct_number (ce a) ≠ ct_number (ce cn) → t' i = some a)) → WX7_putInstead_36 cn ce cin (nI i) t' Q (WX7_putInstead_2 cn ce cin Q n) := by
        intro t' h1 h2
        unfold WX7_putInstead_36
        rintro _ rfl
        rw [nI_1]
        refine ih (i + 1) t' (by omega) (by omega) (fun r hr => ?_) (fun r hr => (h1 r (by omega)).trans (hk r (by omega)))
        by_cases cr : r = i
        · subst cr; exact h2
        · rw [h1 r cr]; exact hd r (by omega)
      refine ⟨fun e => go t (fun _ _ => rfl) ⟨fun _ => (hk i (Nat.le_refl _)).trans e, fun a z => (by rw [e] at z; cases z)⟩, fun a ea => ⟨hc i (by omega) a ea, hn, ?_⟩⟩
      refine br_c (fun c => ⟨v3, go _ (fun r hr => if_neg hr) ⟨fun z => (by rw [ea] at z; cases z), fun b eb => ?_⟩⟩) (fun c => go t (fun _ _ => rfl) ⟨fun z => (by rw [ea] at z; cases z), fun b eb => ?_⟩)
      · have : b = a := by rw [ea] at eb; exact (Option.some.inj eb).symm
        subst this
        exact ⟨fun _ => if_pos rfl, fun z => absurd c z⟩
      · have : b = a := by rw [ea] at eb; exact (Option.some.inj eb).symm
        subst this
        exact ⟨fun z => absurd z c, fun _ => (hk i (Nat.le_refl _)).trans ea⟩
/-- cards as they hang, one of them perhaps changed -/
def CHs (R C c : Nat) (hg : Fn) (ad : Nat → Nat) (ce : Nat → CT) (cin : Nat → Prop) (tc : Nat → Option Nat) (ce1 : Nat → CT) (cin1 : Nat → Prop) : Prop :=
  (∀ a, cin a → cin1 a ∧ ce1 a = ce a) ∧ (∀ r, r < R → hg r = -1 → tc r = none) ∧ (∀ r, r < R → ∀ q, q < C → q ≠ c → hg r = nI q → tc r = some (ad q)) ∧ (∀ r, r < R → hg r = nI c → ∃ a, tc r = some a ∧ cin1 a ∧ ct_number (ce1 a) = nI c) ∧ ∀ r, R ≤ r → r < 3 → tc r = none
theorem C_change {R C c : Nat} {hg : Fn} {ad : Nat → Nat} {ce : Nat → CT} {cin : Nat → Prop} {tc : Nat → Option Nat} {ce1 : Nat → CT} {cin1 : Nat → Prop} (h3 : R ≤ 3) (hC : C ≤ 8) (hc : c < C) (hhg : ∀ r, r < R → hg r = -1 ∨ ∃ q, q < C ∧ hg r = nI q) (had : ∀ q, q < C → cin (ad q) ∧ ct_number (ce (ad q)) = nI q) (h : CHs R C c hg ad ce cin tc ce1 cin1) {an : Nat} (hf : ¬ cin1 an) {t : CT} (ht : ct_number t = nI c) {Q : (Nat → Option Nat) → Prop} (hQ : ∀ tc' : Nat → Option Nat, CHs R C c hg ad ce cin tc' (va_up ce1 an t) (fun a => a = an ∨ cin1 a) → (∀ r, r < R → hg r = nI c → tc' r = some an) → Q tc') : WX7_putInstead an tc (va_up ce1 an t) (fun a => a = an ∨ cin1 a) Q := by
  obtain ⟨h1, h2, h4, h5, h6⟩ := h
  have eq1 : va_up ce1 an t an = t := if_pos rfl
  have eq2 : ∀ a, cin1 a → va_up ce1 an t a = ce1 a := fun a ha => if_neg (fun (z : a = an) => hf (z ▸ ha))
  have old : ∀ q, q < C → cin1 (ad q) ∧ ct_number (va_up ce1 an t (ad q)) = nI q := fun q hq => by
    obtain ⟨a1, a2⟩ := had q hq
    obtain ⟨b1, b2⟩ := h1 _ a1
    exact ⟨b1, by rw [eq2 _ b1, b2]; exact a2⟩
  have cls : ∀ r, r < R → hg r = -1 ∨ (∃ q, q < C ∧ q ≠ c ∧ hg r = nI q) ∨ hg r = nI c := fun r hr => by
    rcases hhg r hr with e | ⟨q, q1, q2⟩
    · exact Or.inl e
    · by_cases e : q = c
      · exact Or.inr (Or.inr (e ▸ q2))
      · exact Or.inr (Or.inl ⟨q, q1, e, q2⟩)
  refine C_put (Or.inl rfl) (fun r hr a ha => ?_) (fun tc' htc => ?_)
  · by_cases c1 : r < R
    · rcases cls r c1 with e | ⟨q, q1, q2, q3⟩ | e
      · rw [h2 r c1 e] at ha; cases ha
      · rw [h4 r c1 q q1 q2 q3] at ha; rw [← Option.some.inj ha]; exact Or.inr (old q q1).1
      · obtain ⟨b, b1, b2, -⟩ := h5 r c1 e
        rw [b1] at ha; rw [← Option.some.inj ha]; exact Or.inr b2
    · rw [h6 r (by omega) hr] at ha; cases ha
  · have hcc : ∀ r, r < R → hg r = nI c → tc' r = some an := fun r hr e => by
      obtain ⟨b, b1, b2, b3⟩ := h5 r hr e
      exact ((htc r (by omega)).2 b b1).1 (by rw [eq2 b b2, b3, eq1, ht])
    refine hQ tc' ⟨fun a ha => ⟨Or.inr (h1 a ha).1, (eq2 a (h1 a ha).1).trans (h1 a ha).2⟩, fun r hr e => (htc r (by omega)).1 (h2 r hr e), fun r hr q q1 q2 q3 => ?_, fun r hr e => ⟨an, hcc r hr e, Or.inl rfl, by rw [eq1]; exact ht⟩, fun r hr h3' => (htc r h3').1 (h6 r hr h3')⟩ hcc
    refine ((htc r (by omega)).2 (ad q) (h4 r hr q q1 q2 q3)).2 ?_
    rw [(old q q1).2, eq1, ht]
    intro z
    exact q2 (nI_inj (by omega) (by omega) z)
theorem CK_change {s : Fn} {R C c : Nat} {hg : Fn} {V : Nat → CV} {v : CV} {ad : Nat → Nat} {ce : Nat → CT} {cin : Nat → Prop} {tc' : Nat → Option Nat} {ce1 : Nat → CT} {cin1 : Nat → Prop} {an : Nat} {t : CT} {st hi : Int32} {m : Bool} (h3 : R ≤ 3) (hC : C ≤ 8) (hh : okH R C hg V) (hv : okV v) (hV : ∀ q, q < C → cin (ad q) ∧ picC (V q) (ce (ad q))) (h : CHs R C c hg ad ce cin tc' (va_up ce1 an t) (fun a => a = an ∨ cin1 a)) (hcc : ∀ r, r < R → hg r = nI c → tc' r = some an) (hp : picC v t) : CKr (rvM s R st hi m hg (vSet V c v)) st tc' (va_up ce1 an t) (fun a => a = an ∨ cin1 a) := by
  refine CKr_of h3 hC (okH_set hh hv) (fun r hr => ⟨fun e => h.2.1 r hr e, fun q hq e => ?_⟩)
  by_cases eq : q = c
  · subst eq
    rw [vSet_s]
    exact ⟨an, hcc r hr e, Or.inl rfl, by rw [show va_up ce1 an t an = t from if_pos rfl]; exact hp⟩
  · rw [vSet_n eq]
    obtain ⟨b1, b2⟩ := h.1 _ (hV q hq).1
    exact ⟨ad q, h.2.2.1 r hr q hq eq e, b1, by rw [b2]; exact (hV q hq).2⟩
theorem CHs_0 {R C c : Nat} {hg : Fn} {ad : Nat → Nat} {ce : Nat → CT} {cin : Nat → Prop} {tc : Nat → Option Nat} (hc : c < C) (had : ∀ q, q < C → cin (ad q) ∧ ct_number (ce (ad q)) = nI q) (g3 : ∀ r, r < R → (hg r = -1 → tc r = none) ∧ ∀ q, q < C → hg r = nI q → tc r = some (ad q)) (g4 : ∀ r, R ≤ r → r < 3 → tc r = none) : CHs R C c hg ad ce cin tc ce cin :=
  ⟨fun a ha => ⟨ha, rfl⟩, fun r hr e => (g3 r hr).1 e, fun r hr q hq _ e => (g3 r hr).2 q hq e, fun r hr e => ⟨ad c, (g3 r hr).2 c hc e, (had c hc).1, (had c hc).2⟩, g4⟩
abbrev tpL (o : CT) (l : Int32) : CT := (ct_number o, ct_kind o, ct_v o, ct_lineCount o, l, ct_digits o, ct_begins o, ct_ends o, ct_steps o)
abbrev tpV (o : CT) (v : Int32) : CT := (ct_number o, ct_kind o, v, ct_lineCount o, -1, ct_digits o, ct_begins o, ct_ends o, ct_steps o)
abbrev setL (v : CV) (l : Nat) : CV := (vKind v, vV v, vN v, some l, vDg v, vFr v, vCn v, vSt v)
abbrev setV (v : CV) (x : Int32) : CV := (vKind v, x, vN v, vLeft v, vDg v, vFr v, vCn v, vSt v)
theorem okV_L {v : CV} {l : Nat} (h : okV v) (hl : l < vN v) : okV (setL v l) := ⟨h.1, h.2.1, fun k e => (by have : k = l := (Option.some.inj e).symm; rw [this]; exact hl), h.2.2.2⟩
theorem okV_V {v : CV} {x : Int32} (h : okV v) (hx : 0 ≤ x ∧ x ≤ 3) : okV (setV v x) := ⟨h.1, hx, h.2.2.1, h.2.2.2⟩
theorem picC_L {v : CV} {o : CT} {l : Nat} (h : picC v o) : picC (setL v l) (tpL o (nI l)) := ⟨h.1, h.2.1, h.2.2.1, rfl, h.2.2.2.2⟩
theorem picC_V {v : CV} {o : CT} {x : Int32} (h : picC v o) (hl : vLeft v = none) : picC (setV v x) (tpV o x) := ⟨h.1, rfl, h.2.2.1, (by show (-1 : Int32) = (match vLeft v with | none => -1 | some l => nI l); rw [hl]), h.2.2.2.2⟩
