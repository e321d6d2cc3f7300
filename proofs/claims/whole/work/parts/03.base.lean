/-! ===== what all contracts share: the surroundings (texts, tables, cards that are only read), the start and the end of a contract ===== -/
abbrev CT : Type := Int32 × Int32 × Int32 × Int32 × Int32 × (Nat → Int32) × (Nat → Int32) × (Nat → Int32) × (Nat → Int32)
abbrev ct_number (c : CT) : Int32 := c.1
abbrev ct_kind (c : CT) : Int32 := c.2.1
abbrev ct_v (c : CT) : Int32 := c.2.2.1
abbrev ct_lineCount (c : CT) : Int32 := c.2.2.2.1
abbrev ct_leftOut (c : CT) : Int32 := c.2.2.2.2.1
abbrev ct_digits (c : CT) : Nat → Int32 := c.2.2.2.2.2.1
abbrev ct_begins (c : CT) : Nat → Int32 := c.2.2.2.2.2.2.1
abbrev ct_ends (c : CT) : Nat → Int32 := c.2.2.2.2.2.2.2.1
abbrev ct_steps (c : CT) : Nat → Int32 := c.2.2.2.2.2.2.2.2
abbrev AD : Type := (Nat → Nat) × (Nat → Nat) × Nat × Nat
def lenJS : List Nat := [6, 4, 3, 3, 4, 4, 3, 4, 5]
def bytJS : List (List Int32) := [[114, 101, 97, 99, 104, 32], [100, 100, 115, 32], [97, 110, 32], [117, 109, 32], [32, 105, 102, 32], [108, 104, 119, 99], [60, 61, 62], [112, 97, 110, 32], [111, 100, 100, 115, 32]]
def SRs : List (String × Nat × String × Nat) := [("SluiceCards$RiverReader", 68, "reach ", 0), ("SluiceCards$RiverReader", 52, "dds ", 1), ("SluiceCards$RiverReader", 78, "an ", 2), ("SluiceCards$RiverReader", 91, "um ", 3), ("SluiceCards$CardReader", 39, " if ", 4), ("SluiceCards$CardReader", 74, "lhwc", 5), ("SluiceCards$CardReader", 80, "<=>", 6), ("SluiceCardsModel", 98, "reach ", 0), ("SluiceCardsModel", 111, "pan ", 7), ("SluiceCardsModel", 113, "um ", 3), ("SluiceCardsModel", 121, "odds ", 8), ("SluiceCardsModel", 155, " if ", 4), ("SluiceCardsModel", 144, "lhwc", 5), ("SluiceCardsModel", 150, "<=>", 6)]
def NSTs : List (String × Nat × MethodName × String) := [("SluiceCards", 11, ⟨"SluiceCards$World", "<init>", "()V"⟩, "SluiceCards"), ("SluiceCards$World", 21, ⟨"SluiceCards$River", "<init>", "()V"⟩, "SluiceCards"), ("SluiceCards", 23, ⟨"SluiceCards$RiverReader", "<init>", "()V"⟩, "SluiceCards"), ("SluiceCards$RiverReader", 3, ⟨"SluiceCards$Reader", "<init>", "()V"⟩, "SluiceCards"), ("SluiceCards$RiverReader", 11, ⟨"SluiceCards$River", "<init>", "()V"⟩, "SluiceCards"), ("SluiceCards", 30, ⟨"SluiceCards$CardReader", "<init>", "()V"⟩, "SluiceCards"), ("SluiceCards$CardReader", 3, ⟨"SluiceCards$Reader", "<init>", "()V"⟩, "SluiceCards"), ("SluiceCards", 37, ⟨"SluiceCards$Trial", "<init>", "()V"⟩, "SluiceCards"), ("SluiceCards$Trial", 11, ⟨"SluiceCards$River", "<init>", "()V"⟩, "SluiceCards"), ("SluiceCards$Trial", 37, ⟨"SluiceCards$Sight", "<init>", "()V"⟩, "SluiceCards"), ("SluiceCards", 44, ⟨"SluiceCards$Trace", "<init>", "()V"⟩, "SluiceCards"), ("SluiceCards$Reader", 28, ⟨"SluiceCards", "copyRow", "([I[I)V"⟩, "SluiceCards"), ("SluiceCards$River", 61, ⟨"SluiceCards", "copyRow", "([I[I)V"⟩, "SluiceCards"), ("SluiceCards$Water", 35, ⟨"SluiceCards", "copyRow", "([I[I)V"⟩, "SluiceCards"), ("SluiceCards$Trial", 130, ⟨"SluiceCards", "powerOfTen", "(I)J"⟩, "SluiceCards"), ("SluiceCards$World", 41, ⟨"SluiceCards", "copyRow", "([I[I)V"⟩, "SluiceCards")]
def tabA (j : Nat) : Int32 := ([-1, 0, 1, 2, 1, 0, 5] : List Int32).getD j 0
def tabB (j : Nat) : Int32 := ([1, 2, 3, 11, 0, 0, 0, 21, 0, 0, 0, 41, 51, 0, 0, 0, 0, 31, 0, 61, 0] : List Int32).getD j 0
abbrev CWs (cyI : ClassId) (a dg bg en st : Nat) (c : CT) : va_W := [(a, .inr (0, [.int (ct_number c), .int (ct_kind c), .int (ct_v c), .int (ct_lineCount c), .int (ct_leftOut c), .ref dg, .ref bg, .ref en, .ref st])), (dg, .inl (cyI, 6, .inl (ct_digits c))), (bg, .inl (cyI, 6, .inl (ct_begins c))), (en, .inl (cyI, 6, .inl (ct_ends c))), (st, .inl (cyI, 120, .inl (ct_steps c)))]
def IsC (cyI : ClassId) (ro : va_W) (a : Nat) (c : CT) : Prop := ∃ dg bg en st : Nat, ∀ q ∈ CWs cyI a dg bg en st c, q ∈ ro
abbrev TYs (cyI cyZ cyC : ClassId) : List (ClassId × FieldType) := [(cyI, .int), (cyZ, .boolean), (cyC, .object "SluiceCards$Card")]
def ENV (ad : AD) (A : Nat → Prop) (U : State) (H : Heap) : Prop :=
  vk_S 9 lenJS bytJS ad.1 ad.2.1 A U H ∧ (∀ r ∈ SRs, vk_R r.1 r.2.1 r.2.2.1 (ad.1 r.2.2.2) U) ∧ (∀ r ∈ NSTs, va_Nw (.methodLinkNest r.1 r.2.1 r.2.2.1 r.2.2.2) U) ∧ va_AO "SluiceCards$Card" U ∧ va_Nw (.castable "[I" "java/lang/Cloneable") U ∧ va_Z "java/lang/String" "COMPACT_STRINGS" "Z" (.int 1) A U H ∧
  (va_Z "SluiceCards$Card" "ABOVE" "[I" (.ref ad.2.2.1) A U H ∧ va_T .int ad.2.2.1 7 (fun j => .int (tabA j)) A U H) ∧ (va_Z "SluiceCards$Trace" "BODIES" "[I" (.ref ad.2.2.2) A U H ∧ va_T .int ad.2.2.2 21 (fun j => .int (tabB j)) A U H) ∧ (∃ oz : Option Nat, va_Z "jdk/internal/util/Preconditions" "SIOOBE_FORMATTER" "Ljava/util/function/BiFunction;" (va_rf oz) A U H)
theorem ENV.kept {ad : AD} {A : Nat → Prop} {U : State} {H H1 : Heap} (h : ENV ad A U H) (hq : ∀ a : Nat, a < H.size → ¬ A a → H1[a]? = H[a]?) : ENV ad A U H1 := by
  obtain ⟨h1, h2, h3, h4, h5, h6, h7, h8, oz, h9⟩ := h
  exact ⟨h1.kept hq, h2, h3, h4, h5, h6.kept hq, ⟨h7.1.kept hq, h7.2.kept hq⟩, ⟨h8.1.kept hq, h8.2.kept hq⟩, oz, h9.kept hq⟩
theorem ENV.narrow {ad : AD} {A B : Nat → Prop} {U : State} {H : Heap} (h : ENV ad A U H) (hAB : ∀ q, B q → A q) : ENV ad B U H := by
  obtain ⟨h1, h2, h3, h4, h5, h6, h7, h8, oz, h9⟩ := h
  exact ⟨h1.narrow hAB, h2, h3, h4, h5, h6.narrow hAB, ⟨h7.1.narrow hAB, h7.2.narrow hAB⟩, ⟨h8.1.narrow hAB, h8.2.narrow hAB⟩, oz, h9.narrow hAB⟩
theorem ENV.warm {ad : AD} {A : Nat → Prop} {s U : State} {H : Heap} (hW : s.WarmedH U.vm) (h : ENV ad A s H) : ENV ad A U H := by
  obtain ⟨h1, h2, h3, h4, h5, h6, h7, h8, oz, h9⟩ := h
  exact ⟨h1.moved hW.alike, fun r hr => (h2 r hr).warm hW, fun r hr => va_Nw.warmM hW (h3 r hr), h4.moved hW.alike, va_Nw.warmC hW h5, h6.moved hW.alike, ⟨h7.1.moved hW.alike, h7.2.moved hW.alike⟩, ⟨h8.1.moved hW.alike, h8.2.moved hW.alike⟩, oz, h9.moved hW.alike⟩
theorem ENV.same {ad : AD} {A : Nat → Prop} {u U : State} {H : Heap} (hv : u.vm = U.vm) (h : ENV ad A u H) : ENV ad A U H := by
  obtain ⟨h1, h2, h3, h4, h5, h6, h7, h8, oz, h9⟩ := h
  have hvm : u.vm.Alike U.vm := by rw [hv]; exact Vm.Alike.refl _
  exact ⟨h1.moved hvm, fun r hr => vk_R.same hv.symm (h2 r hr), fun r hr => va_Nw.same rfl hv (h3 r hr), h4.moved hvm, va_Nw.same rfl hv h5, h6.moved hvm, ⟨h7.1.moved hvm, h7.2.moved hvm⟩, ⟨h8.1.moved hvm, h8.2.moved hvm⟩, oz, h9.moved hvm⟩
def EXT (D : va_G) (cyI : ClassId) (ro : va_W) (ce : Nat → CT) (cin : Nat → Prop) (ad : AD) (A : Nat → Prop) (U : State) (H : Heap) : Prop :=
  va_P D vwCl ro H ∧ (∀ q ∈ ro, ¬ A q.1) ∧ (∀ a, cin a → IsC cyI ro a (ce a)) ∧ ENV ad A U H
theorem EXT.env {D : va_G} {cyI : ClassId} {ro : va_W} {ce : Nat → CT} {cin : Nat → Prop} {ad : AD} {A : Nat → Prop} {U : State} {H : Heap} (h : EXT D cyI ro ce cin ad A U H) : ENV ad A U H := h.2.2.2
theorem EXT.card {D : va_G} {cyI : ClassId} {ro : va_W} {ce : Nat → CT} {cin : Nat → Prop} {ad : AD} {A : Nat → Prop} {U : State} {H : Heap} (h : EXT D cyI ro ce cin ad A U H) {a : Nat} (ha : cin a) : IsC cyI ro a (ce a) := h.2.2.1 a ha
theorem EXT.now {D : va_G} {cyI : ClassId} {ro : va_W} {ce : Nat → CT} {cin : Nat → Prop} {ad : AD} {A : Nat → Prop} {s : State} {H : Heap} {locs : List Loc} (h : EXT D cyI ro ce cin ad A s s.heap) (hS : va_S A s.heap H locs) : va_P D vwCl ro H :=
  h.1.kept fun k q hk => hS.2.1 q.1 (h.1 k q hk).lt (h.2.1 q (List.mem_of_getElem? hk))
theorem EXT.call {D : va_G} {cyI : ClassId} {ro : va_W} {ce : Nat → CT} {cin : Nat → Prop} {ad : AD} {A A1 : Nat → Prop} {s U : State} {H : Heap} {locs : List Loc} (h : EXT D cyI ro ce cin ad A s s.heap) (hS : va_S A s.heap H locs) (hF : ∀ q, A1 q → A q) (hU : U.heap = H) (hW : s.WarmedH U.vm) : EXT D cyI ro ce cin ad A1 U U.heap := by
  rw [hU]
  exact ⟨h.now hS, fun q hq z => h.2.1 q hq (hF _ z), h.2.2.1, (ENV.kept h.env (fun a h1 h2 => hS.2.1 a h1 h2)).narrow hF |>.warm hW⟩
/-- the cells of a card, at any time of a body -/
theorem EXT.cardAt {D : va_G} {cyI : ClassId} {ro : va_W} {ce : Nat → CT} {cin : Nat → Prop} {ad : AD} {A : Nat → Prop} {s : State} (h : EXT D cyI ro ce cin ad A s s.heap) {a : Nat} {c : CT} (hc : IsC cyI ro a c) : ∃ dg bg en st : Nat, ∀ (H : Heap) (locs : List Loc), va_S A s.heap H locs → va_P D vwCl (CWs cyI a dg bg en st c) H := by
  obtain ⟨dg, bg, en, st, hm⟩ := hc
  refine ⟨dg, bg, en, st, fun H locs hS k q hk => ?_⟩
  obtain ⟨i, hi⟩ := List.getElem?_of_mem (hm q (List.mem_of_getElem? hk))
  exact h.now hS i q hi
theorem EXT.anyCard {D : va_G} {cyI cyZ cyC : ClassId} {ro : va_W} {ce : Nat → CT} {cin : Nat → Prop} {ad : AD} {A : Nat → Prop} {s : State} {H : Heap} {locs : List Loc} (h : EXT D cyI ro ce cin ad A s s.heap) (hK : va_K D vwCl (TYs cyI cyZ cyC) s) (hS : va_S A s.heap H locs) {a : Nat} (ha : cin a) : va_Any "SluiceCards$Card" s H a := by
  obtain ⟨dg, bg, en, st, hR⟩ := h.cardAt (h.card ha)
  refine va_rAny hK (hR H locs hS) (q0 := 0) (ci := 0) rfl rfl ?_
  intro comp c0 h1 h2
  have e : comp = c0 := Option.some.inj (h1.symm.trans h2)
  subst e
  exact va_asg _ _
def PRE (D : va_G) (cyI cyZ cyC : ClassId) (ro : va_W) (ce : Nat → CT) (cin : Nat → Prop) (ad : AD) (WS : va_W) (sz : Nat) : State → Prop := fun U =>
  U.heap.size = sz ∧ va_P D vwCl WS U.heap ∧ va_K D vwCl (TYs cyI cyZ cyC) U ∧ va_D (fun _ => True) WS ∧ EXT D cyI ro ce cin ad (va_A WS sz) U U.heap
def POST (D : va_G) (A : Nat → Prop) (WS : va_W) : State → Prop := fun t => va_P D vwCl WS t.heap ∧ va_D A WS
theorem pre_bl {D : va_G} {cyI cyZ cyC : ClassId} {ro : va_W} {ce : Nat → CT} {cin : Nat → Prop} {ad : AD} {WS : va_W} {sz : Nat} {as : List Value} : FrameBlind (va_Pc as (PRE D cyI cyZ cyC ro ce cin ad WS sz)) := by
  intro a U g mk h
  obtain ⟨h0, h1, h2, h3, h4, h5⟩ := h
  exact ⟨h0, h1, h2, va_K.moved (u := U) (U := U.calling g mk a) (Vm.Alike.refl U.vm) h3, h4, h5.1, h5.2.1, h5.2.2.1, ENV.same (u := U) (U := U.calling g mk a) rfl h5.2.2.2⟩
theorem pre_of {D : va_G} {cyI cyZ cyC : ClassId} {ro : va_W} {ce : Nat → CT} {cin : Nat → Prop} {ad : AD} {A A0 : Nat → Prop} {wc : va_W} {s U : State} {H : Heap} {locs : List Loc} (hX : EXT D cyI ro ce cin ad A s s.heap) (hS : va_S A s.heap H locs) (hK : va_K D vwCl (TYs cyI cyZ cyC) s) (hP : va_P D vwCl wc H) (hD : va_D A0 wc) (hF : ∀ q, va_A wc H.size q → A q) (hU : U.heap = H) (hW : s.WarmedH U.vm) : PRE D cyI cyZ cyC ro ce cin ad wc H.size U :=
  ⟨by rw [hU], by rw [hU]; exact hP, va_K.moved hW.alike hK, hD.weaken (fun _ _ _ _ => trivial), hX.call hS hF hU hW⟩
theorem rf_cases (o : Option Nat) : va_rf o = .null ∨ ∃ a, va_rf o = .ref a := by cases o with
  | none => exact Or.inl rfl
  | some a => exact Or.inr ⟨a, rfl⟩
theorem EXT.cellCard {D : va_G} {cyI cyZ cyC : ClassId} {ro : va_W} {ce : Nat → CT} {cin : Nat → Prop} {ad : AD} {A : Nat → Prop} {s : State} {H : Heap} {locs : List Loc} (h : EXT D cyI ro ce cin ad A s s.heap) (hK : va_K D vwCl (TYs cyI cyZ cyC) s) (hS : va_S A s.heap H locs) {a : Nat} (ha : cin a) : ∃ cell : Cell, H[a]? = some cell ∧ cell.vm.isStatics = false ∧ s.vm.findClass "SluiceCards$Card" = some cell.cls := by
  obtain ⟨dg, bg, en, st, hR⟩ := h.cardAt (h.card ha)
  exact va_recv hK (hR H locs hS) (ci := 0) (q0 := 0) rfl rfl
theorem post_mk {D : va_G} {A : Nat → Prop} {WS : va_W} {t : State} {H : Heap} (ht : t.heap = H) (hP : va_P D vwCl WS H) (hD : va_D A WS) : POST D A WS t := ⟨by rw [ht]; exact hP, hD⟩
theorem vpc {i : Int32} {n : Nat} (h : decide (¬ (i < 0 ∨ n ≤ i.toNatClampNeg)) = true) : vp_in i n := by
  unfold vp_in
  exact of_decide_eq_true h
theorem va_zero (cA : ClassId) {n : Nat} : vp_cell cA (n, .inl (fun _ => 0)) = arrV cA n (fun _ => defaultValue .int) := rfl
theorem va_zeroZ (cA : ClassId) {n : Nat} : vp_cell cA (n, .inl (fun _ => 0)) = arrV cA n (fun _ => defaultValue .boolean) := rfl
theorem genq {α : Sort _} {P : α → Prop} {q : α} (h : P q) : ∃ q', q' = q ∧ P q' := ⟨q, rfl, h⟩
/-- a boolean is 0 or 1 -/
def isB (x : Int32) : Prop := x = 0 ∨ x = 1
theorem isB_nar {x : Int32} (h : isB x) : narrow .boolean (.int x) = .int x := by rcases h with rfl | rfl <;> rfl
theorem isB_fit {x : Int32} (h : isB x) : fits .boolean (.int x) = true := by rcases h with rfl | rfl <;> rfl
theorem isB_vp {x : Int32} (h : isB x) : vp_nar .boolean x = x := by rcases h with rfl | rfl <;> rfl
theorem isB_0 : isB 0 := Or.inl rfl
theorem isB_1 : isB 1 := Or.inr rfl
/-- one array class by its name -/
theorem k_cls {D : va_G} {tys : List (ClassId × FieldType)} {s : State} {c0 c1 : ClassId} {ty : FieldType} (hty : ∀ C, ty ≠ .object C) (h1 : va_K D vwCl tys s) {i j : Nat} (hi : tys[i]? = some (c0, ty)) (hj : tys[j]? = some (c1, ty)) : c1 = c0 := by
  have a := (h1.2 i _ hi).2
  have b := (h1.2 j _ hj).2
  cases ty <;> first | exact absurd rfl (hty _) | exact Option.some.inj (b.symm.trans a)
theorem k_clsO {D : va_G} {tys : List (ClassId × FieldType)} {s : State} {c0 c1 : ClassId} {C : String} (h1 : va_K D vwCl tys s) {i j : Nat} (hi : tys[i]? = some (c0, .object C)) (hj : tys[j]? = some (c1, .object C)) : c1 = c0 := by
  obtain ⟨_, _, _, _, _, a⟩ := (h1.2 i _ hi).2
  obtain ⟨_, _, _, _, _, b⟩ := (h1.2 j _ hj).2
  exact Option.some.inj (b.symm.trans a)
