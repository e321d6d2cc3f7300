/-! ===== for methods that make cards, and for the law ===== -/
theorem va_P.left {D : va_G} {cl : List vw_C} {w1 w2 : va_W} {H : Heap} (h : va_P D cl (w1 ++ w2) H) : va_P D cl w1 H := fun k q hk => h k q (by rw [List.getElem?_append_left (List.getElem?_eq_some_iff.mp hk).1]; exact hk)
theorem va_P.right {D : va_G} {cl : List vw_C} {w1 w2 : va_W} {H : Heap} (h : va_P D cl (w1 ++ w2) H) : va_P D cl w2 H := fun k q hk => h (w1.length + k) q (by rw [List.getElem?_append_right (Nat.le_add_right _ _), Nat.add_sub_cancel_left]; exact hk)
theorem va_D.left {A : Nat → Prop} {w1 w2 : va_W} (h : va_D A (w1 ++ w2)) : va_D A w1 := by
  have key : ∀ (k : Nat) (q : Nat × va_E), w1[k]? = some q → (w1 ++ w2)[k]? = some q := fun k q hk => by rw [List.getElem?_append_left (List.getElem?_eq_some_iff.mp hk).1]; exact hk
  exact ⟨fun i j p q hi hj e => h.1 i j p q (key i p hi) (key j q hj) e, fun k q hk => h.2 k q (key k q hk)⟩
theorem va_at_right {w1 w2 : va_W} {k : Nat} {q : Nat × va_E} (hk : w2[k]? = some q) : (w1 ++ w2)[w1.length + k]? = some q := by
  rw [List.getElem?_append_right (Nat.le_add_right _ _), Nat.add_sub_cancel_left]; exact hk
theorem va_at_left {w1 w2 : va_W} {k : Nat} {q : Nat × va_E} (hk : w1[k]? = some q) : (w1 ++ w2)[k]? = some q := by
  rw [List.getElem?_append_left (List.getElem?_eq_some_iff.mp hk).1]; exact hk
theorem va_D.right {A : Nat → Prop} {w1 w2 : va_W} (h : va_D A (w1 ++ w2)) : va_D A w2 :=
  ⟨fun i j p q hi hj e => by have := h.1 _ _ p q (va_at_right (w1 := w1) hi) (va_at_right (w1 := w1) hj) e; omega, fun k q hk => h.2 _ q (va_at_right (w1 := w1) hk)⟩
theorem va_D.cross {A : Nat → Prop} {w1 w2 : va_W} (h : va_D A (w1 ++ w2)) (i j : Nat) (p q : Nat × va_E) (hi : w1[i]? = some p) (hj : w2[j]? = some q) : p.1 ≠ q.1 := by
  intro e
  have h1 := h.1 _ _ p q (va_at_left (w2 := w2) hi) (va_at_right (w1 := w1) hj) e
  have h2 := (List.getElem?_eq_some_iff.mp hi).1
  omega
theorem va_P.subF {D : va_G} {cl : List vw_C} {ws ws' fr : va_W} {H : Heap} (h : va_P D cl (ws ++ fr) H) (is : List Nat) (e : is.filterMap (fun i => ws[i]?) = ws') : va_P D cl (ws' ++ fr) H := va_P.app (h.left.sub is e) h.right
theorem va_D.subF {A : Nat → Prop} {ws ws' fr : va_W} (h : va_D A (ws ++ fr)) (is : List Nat) (hn : va_nd is = true) (e : is.map (fun i => ws[i]?) = ws'.map some) : va_D A (ws' ++ fr) := by
  refine va_D.app (h.left.sub is hn e) h.right fun i j p q hi hj => ?_
  have h1 : (is.map (fun i => ws[i]?))[i]? = some (some p) := by rw [e, List.getElem?_map, hi]; rfl
  rw [List.getElem?_map] at h1
  cases hk : is[i]? with
  | none => rw [hk] at h1; cases h1
  | some k =>
    rw [hk] at h1
    exact h.cross k j p q (Option.some.inj h1) hj
theorem va_P.rot {D : va_G} {cl : List vw_C} (ws : va_W) {fr : va_W} {x : Nat × va_E} {H : Heap} (h : va_P D cl ((ws ++ fr) ++ [x]) H) : va_P D cl ((ws ++ [x]) ++ fr) H := va_P.app (va_P.app h.left.left h.right) h.left.right
theorem va_D.rot {A : Nat → Prop} (ws : va_W) {fr : va_W} {x : Nat × va_E} (h : va_D A ((ws ++ fr) ++ [x])) : va_D A ((ws ++ [x]) ++ fr) := by
  refine va_D.app (va_D.app h.left.left h.right fun i j p q hi hj => ?_) h.left.right fun i j p q hi hj => ?_
  · exact h.cross i j p q (va_at_left hi) hj
  · by_cases hl : i < ws.length
    · rw [List.getElem?_append_left hl] at hi
      exact h.left.cross i j p q hi hj
    · rw [List.getElem?_append_right (by omega)] at hi
      exact fun e => h.cross (ws.length + j) (i - ws.length) q p (va_at_right hj) hi e.symm
/-- what a list of places picks isn't among the rest -/
theorem bs_apart {D : va_G} {cl : List vw_C} {A0 : Nat → Prop} {ws fr wc : va_W} {H : Heap} (hP : va_P D cl (ws ++ fr) H) (hD : va_D A0 (ws ++ fr)) (isC : List Nat) (hC : isC.map (fun i => ws[i]?) = wc.map some) (k : Nat) (q : Nat × va_E) (hq : fr[k]? = some q) : ¬ va_A wc H.size q.1 := by
  intro h
  rcases h with ⟨k2, e, h⟩ | h
  · have h1 : (isC.map (fun i => ws[i]?))[k2]? = some (some (q.1, e)) := by rw [hC, List.getElem?_map, h]; rfl
    rw [List.getElem?_map] at h1
    cases hi : isC[k2]? with
    | none => rw [hi] at h1; cases h1
    | some i =>
      rw [hi] at h1
      exact hD.cross i k (q.1, e) q (Option.some.inj h1) hq rfl
  · have := (hP.right k q hq).lt
    omega
theorem va_joinF {A0 : Nat → Prop} {D : va_G} {cl : List vw_C} {ws fr wc wr w1 : va_W} {H H1 : Heap} (hP : va_P D cl (ws ++ fr) H) (hD : va_D A0 (ws ++ fr)) (isC isR : List Nat) (hC : isC.map (fun i => ws[i]?) = wc.map some) (hR : isR.map (fun i => ws[i]?) = wr.map some) (hn : va_nd isR = true) (hdis : ∀ i ∈ isR, i ∉ isC)
    (hk : ∀ q : Nat, q < H.size → ¬ va_A wc H.size q → H1[q]? = H[q]?) (hF : ∀ q, va_A wc H.size q → A0 q) (hP1 : va_P D cl w1 H1) (hD1 : va_D (va_A wc H.size) w1) : va_P D cl ((wr ++ w1) ++ fr) H1 ∧ va_D A0 ((wr ++ w1) ++ fr) := by
  obtain ⟨j1, j2⟩ := va_join hP.left hD.left isC isR hC hR hn hdis hk hF hP1 hD1
  have hno := bs_apart hP hD isC hC
  refine ⟨va_P.app j1 (hP.right.kept fun k q hq => hk q.1 (hP.right k q hq).lt (hno k q hq)), va_D.app j2 hD.right fun i j p q hi hj => ?_⟩
  by_cases hl : i < wr.length
  · rw [List.getElem?_append_left hl] at hi
    have h1 : (isR.map (fun i => ws[i]?))[i]? = some (some p) := by rw [hR, List.getElem?_map, hi]; rfl
    rw [List.getElem?_map] at h1
    cases hz : isR[i]? with
    | none => rw [hz] at h1; cases h1
    | some z =>
      rw [hz] at h1
      exact hD.cross z j p q (Option.some.inj h1) hj
  · rw [List.getElem?_append_right (by omega)] at hi
    intro e
    exact hno j q hj (e ▸ hD1.2 _ p hi)
theorem EXT.cardAt2 {D : va_G} {cyI : ClassId} {ro : va_W} {ce : Nat → CT} {cin : Nat → Prop} {ad : AD} {A : Nat → Prop} {s : State} (h : EXT D cyI ro ce cin ad A s s.heap) {a dg bg en st : Nat} {c : CT} (hm : ∀ q ∈ CWs cyI a dg bg en st c, q ∈ ro) : ∀ (H : Heap) (locs : List Loc), va_S A s.heap H locs → va_P D vwCl (CWs cyI a dg bg en st c) H := by
  intro H locs hS k q hk
  obtain ⟨i, hi⟩ := List.getElem?_of_mem (hm q (List.mem_of_getElem? hk))
  exact h.now hS i q hi
theorem IsC.mono {cyI : ClassId} {r1 r2 : va_W} {a : Nat} {c : CT} (h : ∀ q ∈ r1, q ∈ r2) (hc : IsC cyI r1 a c) : IsC cyI r2 a c := by
  obtain ⟨dg, bg, en, st, hm⟩ := hc
  exact ⟨dg, bg, en, st, fun q hq => h q (hm q hq)⟩
theorem hin_up {cyI : ClassId} {r1 r2 : va_W} {ce : Nat → CT} {cin : Nat → Prop} {a : Nat} {c : CT} (h : ∀ x, cin x → IsC cyI r1 x (ce x)) (hnew : IsC cyI r2 a c) (hsub : ∀ q ∈ r1, q ∈ r2) : ∀ x, (x = a ∨ cin x) → IsC cyI r2 x (va_up ce a c x) := by
  intro x hx
  by_cases e : x = a
  · subst e
    simpa [va_up] using hnew
  · have h1 := (h x (hx.resolve_left e)).mono hsub
    simpa [va_up, e] using h1
theorem cws_in {cyI : ClassId} {r : va_W} {a b dg bg en st : Nat} {c : CT} {n k v lc lo : Int32} (h1 : ((b, .inr (0, [.int n, .int k, .int v, .int lc, .int lo, .ref dg, .ref bg, .ref en, .ref st])) : Nat × va_E) ∈ r) (h2 : ∀ q ∈ CWs cyI a dg bg en st c, q ∈ r) : ∀ q ∈ CWs cyI b dg bg en st (n, k, v, lc, lo, ct_digits c, ct_begins c, ct_ends c, ct_steps c), q ∈ r := by
  intro q hq
  rcases List.mem_cons.mp hq with rfl | hq
  · exact h1
  · exact h2 q (List.mem_cons_of_mem _ hq)
theorem EXT.fresh {D : va_G} {cyI : ClassId} {ro : va_W} {ce : Nat → CT} {cin : Nat → Prop} {ad : AD} {A : Nat → Prop} {U : State} {H : Heap} (h : EXT D cyI ro ce cin ad A U H) {a : Nat} (ha : A a) : ¬ cin a := by
  intro z
  obtain ⟨dg, bg, en, st, hm⟩ := h.card z
  exact h.2.1 _ (hm _ List.mem_cons_self) ha
theorem freshF {D : va_G} {cyI : ClassId} {ro ws fr : va_W} {ce ce1 : Nat → CT} {cin cin1 : Nat → Prop} {ad : AD} {A : Nat → Prop} {U : State} {H : Heap} (h : EXT D cyI ro ce cin ad A U H) (hD : va_D A (ws ++ fr)) (k : Nat) {q : Nat × va_E} (hk : ws[k]? = some q) (hin : ∀ x, cin1 x → IsC cyI (ro ++ fr) x (ce1 x)) : ¬ cin1 q.1 := by
  intro z
  obtain ⟨dg, bg, en, st, hm⟩ := hin _ z
  rcases List.mem_append.mp (hm _ List.mem_cons_self) with h1 | h1
  · exact h.2.1 _ h1 (hD.2 k q (va_at_left hk))
  · obtain ⟨j, hj⟩ := List.getElem?_of_mem h1
    exact hD.cross k j q _ hk hj rfl
theorem pre_ofF {D : va_G} {cyI cyZ cyC : ClassId} {ro ws fr : va_W} {ce ce1 : Nat → CT} {cin cin1 : Nat → Prop} {ad : AD} {A A0 : Nat → Prop} {wc : va_W} {s U : State} {H : Heap} {locs : List Loc} (hX : EXT D cyI ro ce cin ad A s s.heap) (hS : va_S A s.heap H locs) (hK : va_K D vwCl (TYs cyI cyZ cyC) s) (hP : va_P D vwCl (ws ++ fr) H) (hD : va_D A0 (ws ++ fr)) (hPc : va_P D vwCl wc H) (hDc : va_D A0 wc) (isC : List Nat) (hC : isC.map (fun i => ws[i]?) = wc.map some)
    (hin : ∀ x, cin1 x → IsC cyI (ro ++ fr) x (ce1 x)) (hF : ∀ q, va_A wc H.size q → A q) (hU : U.heap = H) (hW : s.WarmedH U.vm) : PRE D cyI cyZ cyC (ro ++ fr) ce1 cin1 ad wc H.size U := by
  refine ⟨by rw [hU], by rw [hU]; exact hPc, va_K.moved hW.alike hK, hDc.weaken (fun _ _ _ _ => trivial), ?_, ?_, hin, (hX.call hS hF hU hW).2.2.2⟩
  · rw [hU]; exact va_P.app (hX.now hS) hP.right
  · intro q hq
    rcases List.mem_append.mp hq with h | h
    · exact fun z => hX.2.1 q h (hF _ z)
    · obtain ⟨j, hj⟩ := List.getElem?_of_mem h
      exact bs_apart hP hD isC hC j q hj
def FRo (cyI : ClassId) (o : Option (Nat × Nat × Nat × Nat × Nat × CT)) : va_W := match o with
  | none => []
  | some x => CWs cyI x.1 x.2.1 x.2.2.1 x.2.2.2.1 x.2.2.2.2.1 x.2.2.2.2.2
theorem clone_fits (cA : ClassId) (n : Nat) (f : Nat → Int32) : ∀ (i : Nat) (v : Value), (vp_cell cA (n, .inl f)).slots[i]? = some v → fits .int v = true := by
  intro i v h
  simp only [vp_cell, arrV] at h
  obtain ⟨h1, h2⟩ := Array.getElem?_eq_some_iff.mp h
  rw [Array.getElem_ofFn] at h2
  subst h2
  rfl
theorem clsI {D : va_G} {cyI cyZ cyC : ClassId} {s : State} (hK : va_K D vwCl (TYs cyI cyZ cyC) s) : s.vm.findClass "[I" = some cyI := by
  have h : s.vm.findClass ("[" ++ (FieldType.int).toString) = some cyI := (hK.2 0 _ rfl).2
  have e : ("[" ++ (FieldType.int).toString) = "[I" := by decide +kernel
  rw [← e]
  exact h
/-- the callee's cells put back at their places -/
def va_sets : va_W → List Nat → va_W → va_W
  | ws, i :: is, c :: cs => va_sets (ws.set i c) is cs
  | ws, [], _ => ws
  | ws, _ :: _, [] => ws
theorem va_sets_fst : ∀ (is : List Nat) (ws cs : va_W), (∀ (k i : Nat) (c : Nat × va_E), is[k]? = some i → cs[k]? = some c → ∃ q : Nat × va_E, ws[i]? = some q ∧ q.1 = c.1) → (va_sets ws is cs).map Prod.fst = ws.map Prod.fst
  | [], ws, cs, _ => by cases cs <;> rfl
  | i :: is, ws, [], _ => rfl
  | i :: is, ws, c :: cs, h => by
    obtain ⟨q, h1, h2⟩ := h 0 i c rfl rfl
    have e : (ws.set i c).map Prod.fst = ws.map Prod.fst := by
      apply List.ext_getElem?
      intro k
      rw [List.getElem?_map, List.getElem?_map]
      by_cases hk : i = k
      · subst hk
        rw [List.getElem?_set_self (List.getElem?_eq_some_iff.mp h1).1, h1]
        simp [h2]
      · rw [List.getElem?_set_ne hk]
    rw [va_sets, va_sets_fst is _ cs, e]
    intro k j d hj hd
    obtain ⟨p, p1, p2⟩ := h (k + 1) j d hj hd
    by_cases hk : i = j
    · subst hk
      refine ⟨c, List.getElem?_set_self (List.getElem?_eq_some_iff.mp h1).1, ?_⟩
      rw [h1] at p1
      cases p1
      rw [← h2, p2]
    · exact ⟨p, by rw [List.getElem?_set_ne hk]; exact p1, p2⟩
theorem va_sets_mem : ∀ (is : List Nat) (ws cs : va_W) (q : Nat × va_E), is.length = cs.length → q ∈ va_sets ws is cs → q ∈ cs ∨ ∃ j, ws[j]? = some q ∧ j ∉ is
  | [], ws, cs, q, _, h => by
    have h' : q ∈ ws := by cases cs <;> exact h
    obtain ⟨j, hj⟩ := List.getElem?_of_mem h'
    exact Or.inr ⟨j, hj, List.not_mem_nil⟩
  | i :: is, ws, [], q, hl, h => by cases hl
  | i :: is, ws, c :: cs, q, hl, h => by
    rcases va_sets_mem is _ cs q (Nat.succ.inj hl) h with h1 | ⟨j, hj, hn⟩
    · exact Or.inl (List.mem_cons_of_mem _ h1)
    · by_cases hk : i = j
      · subst hk
        have hlt : i < (ws.set i c).length := (List.getElem?_eq_some_iff.mp hj).1
        rw [List.getElem?_set_self (by rw [List.length_set] at hlt; exact hlt)] at hj
        cases hj
        exact Or.inl List.mem_cons_self
      · rw [List.getElem?_set_ne hk] at hj
        exact Or.inr ⟨j, hj, fun z => (List.mem_cons.mp z).elim (fun e => hk e.symm) hn⟩
theorem va_D.of_fst {A : Nat → Prop} {w1 w2 : va_W} (e : w2.map Prod.fst = w1.map Prod.fst) (h : va_D A w1) : va_D A w2 := by
  have key : ∀ (k : Nat) (q : Nat × va_E), w2[k]? = some q → ∃ p, w1[k]? = some p ∧ p.1 = q.1 := by
    intro k q hk
    have h1 : (w2.map Prod.fst)[k]? = some q.1 := by rw [List.getElem?_map, hk]; rfl
    rw [e, List.getElem?_map] at h1
    cases hp : w1[k]? with
    | none => rw [hp] at h1; cases h1
    | some p => rw [hp] at h1; exact ⟨p, rfl, Option.some.inj h1⟩
  refine ⟨fun i j x y hi hj hxy => ?_, fun k q hk => ?_⟩
  · obtain ⟨p, p1, p2⟩ := key i x hi
    obtain ⟨r, r1, r2⟩ := key j y hj
    exact h.1 i j p r p1 r1 (by rw [p2, r2]; exact hxy)
  · obtain ⟨p, p1, p2⟩ := key k q hk
    rw [← p2]
    exact h.2 k p p1
theorem va_joinS {A0 : Nat → Prop} {D : va_G} {cl : List vw_C} {ws fr wc w1 : va_W} {H H1 : Heap} (hP : va_P D cl (ws ++ fr) H) (hD : va_D A0 (ws ++ fr)) (isC : List Nat) (hC : isC.map (fun i => ws[i]?) = wc.map some) (hfst : w1.map Prod.fst = wc.map Prod.fst)
    (hk : ∀ q : Nat, q < H.size → ¬ va_A wc H.size q → H1[q]? = H[q]?) (hP1 : va_P D cl w1 H1) : va_P D cl (va_sets ws isC w1 ++ fr) H1 ∧ va_D A0 (va_sets ws isC w1 ++ fr) := by
  have hno := bs_apart hP hD isC hC
  have hlen : isC.length = w1.length := by
    have h1 := congrArg List.length hC
    have h2 := congrArg List.length hfst
    simp only [List.length_map] at h1 h2
    omega
  have hf : (va_sets ws isC w1).map Prod.fst = ws.map Prod.fst := by
    refine va_sets_fst isC ws w1 fun k i c hi hc => ?_
    have h1 : (isC.map (fun i => ws[i]?))[k]? = some (ws[i]?) := by rw [List.getElem?_map, hi]; rfl
    rw [hC, List.getElem?_map] at h1
    have h2 : (w1.map Prod.fst)[k]? = some c.1 := by rw [List.getElem?_map, hc]; rfl
    rw [hfst, List.getElem?_map] at h2
    cases hw : wc[k]? with
    | none => rw [hw] at h2; cases h2
    | some d =>
      rw [hw] at h1 h2
      exact ⟨d, (Option.some.inj h1).symm, Option.some.inj h2⟩
  have hof : ∀ (j : Nat) (q : Nat × va_E), ws[j]? = some q → j ∉ isC → ¬ va_A wc H.size q.1 := by
    intro j q hj hn h
    rcases h with ⟨k2, e, h⟩ | h
    · have h1 : (isC.map (fun i => ws[i]?))[k2]? = some (some (q.1, e)) := by rw [hC, List.getElem?_map, h]; rfl
      rw [List.getElem?_map] at h1
      cases hi : isC[k2]? with
      | none => rw [hi] at h1; cases h1
      | some i =>
        rw [hi] at h1
        have := hD.left.1 i j (q.1, e) q (Option.some.inj h1) hj rfl
        exact hn (this ▸ List.mem_of_getElem? hi)
    · have := (hP.left j q hj).lt
      omega
  refine ⟨va_P.app (fun k q hq => ?_) (hP.right.kept fun k q hq => hk q.1 (hP.right k q hq).lt (hno k q hq)), va_D.of_fst (w1 := ws ++ fr) (by rw [List.map_append, List.map_append, hf]) hD⟩
  rcases va_sets_mem isC ws w1 q hlen (List.mem_of_getElem? hq) with h | ⟨j, hj, hn⟩
  · obtain ⟨i, hi⟩ := List.getElem?_of_mem h
    exact hP1 i q hi
  · exact (hP.left j q hj).kept (hk q.1 (hP.left j q hj).lt (hof j q hj hn))
