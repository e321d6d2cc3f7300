-- ===== end of PART A; then your names; then what follows =====
/-! THE CLAIM OUT OF ONE WALK OF THE LAW'S BODY. Your part is whole_start (and what it stands on); all else here is the same for every law, but numbers. -/
def R_law : String := "SluiceCardsLaw"
def lw_P (b : Addr) (xs : List Int32) (args : Array Value) (s : State) : Prop := args = #[.ref b] ∧ s.IntsAt b xs ∧ xs.length ≤ 256 ∧ (Jvm.Cond.and given_1 narrow_1).before args s = true
def lw_Q (_ : Array Value) (s : State) (o : Outcome) (t : State) : Prop := o = .returned (some (.int 1)) ∧ Framed s o t [] 600000 7302250
def lw_Z (below : List Frame) (a : Array Value) (s : State) : State → Prop := fun t => ∃ o, t.status = .running ∧ Ended t below o ∧ lw_Q a s o t
/-- the law's own end, with 1 on the stack, nothing written that was there before, its room as the claim has it -/
theorem lw_ret {p : Program} {l : Launch} {e : Env} {s : State} {m : MethodId} {below : List Frame} {meth : Method} {c : Code} {b : Nat} (hx : p.tables.exec = Jvm.exec) (hb : c.code = code) (hr : meth.sig.returnType = ret) (hlocks : meth.locks = false) {pc : Nat} {H : Heap} {ls : Array Slot} (hdg : decode code pc = .ok (.ireturn, 1)) : W p l e room_1 s m #[Value.ref b] below meth c H [] 600000 7302250 (lw_Z below #[Value.ref b] s) (F0 m pc ls [.int 1]) := by
  intro T hT X
  obtain ⟨fs, hret, hrun, hended, hW, hframe⟩ := X.leave (v := some (.int 1)) (hlocks := hlocks) (fun h => by rw [hr] at h; cases h)
  have hmeth' : T.vm.method? m = some meth := X.method'
  refine ⟨T.setFrames fs, ?_, .returned (some (.int 1)), hrun, hended, rfl, ⟨_, rfl⟩, hW, hframe⟩
  jvm_step X.here [X.here.top, hx, hb, hdg, hmeth', hr, ret, narrow_b1]
  (try refine ⟨rfl, ?_⟩); (try refine ⟨rfl, ?_⟩)
  first | (intro acts; rw [hret _ acts rfl rfl rfl]) | rw [hret _ _ rfl rfl rfl]
  exact Steps.refl _
/-- what holds at the law's entry: the machine, the code, the tables' words (any of lw_tbl by 'hts w (by decide +kernel)'), the script of L ints xs at the cell b, what the Statement gives of the start (any of its parts by flat_of_before) -/
def lw_At (p : Program) (s : State) (m : MethodId) (meth : Method) (c : Code) (b L : Nat) (xs : Nat → Int32) : Prop :=
  p.tables.exec = Jvm.exec ∧ c.code = code ∧ meth.sig.returnType = ret ∧ c.maxLocals = 4 ∧ s.vm.findClass R_law = some m.cls ∧ (∀ w ∈ lw_tbl, w.before #[Value.ref b] s = true) ∧ va_X b L xs s s.heap ∧ b < s.heap.size ∧ meth.locks = false ∧ (Jvm.Cond.and given_1 narrow_1).before #[Value.ref b] s = true

def tmS (i : Nat) : Term := match i with | 0 => .string "SluiceCards$RiverReader" 68 | 1 => .string "SluiceCards$RiverReader" 52 | 2 => .string "SluiceCards$RiverReader" 78 | 3 => .string "SluiceCards$RiverReader" 91 | 4 => .string "SluiceCards$CardReader" 39 | 5 => .string "SluiceCards$CardReader" 74 | 6 => .string "SluiceCards$CardReader" 80 | 7 => .string "SluiceCardsModel" 111 | _ => .string "SluiceCardsModel" 121
def flN : List Cond := flatC (Jvm.Cond.and given_1 narrow_1)
set_option maxRecDepth 100000 in
set_option maxHeartbeats 4000000 in
theorem e_hex : ∀ i, i < 9 → Cond.exactly (tmS i) "java/lang/String" ∈ flN := by decide +kernel
set_option maxRecDepth 100000 in
set_option maxHeartbeats 4000000 in
theorem e_hco : ∀ i, i < 9 → Cond.eq (.field (tmS i) "java/lang/String" "coder" "B") (.int 0) ∈ flN := by decide +kernel
set_option maxRecDepth 100000 in
set_option maxHeartbeats 4000000 in
theorem e_har : ∀ i, i < 9 → Cond.arrayOf (.field (tmS i) "java/lang/String" "value" "[B") .byte ∈ flN := by decide +kernel
set_option maxRecDepth 100000 in
set_option maxHeartbeats 4000000 in
theorem e_hle : ∀ i, i < 9 → Cond.eq (.length (.field (tmS i) "java/lang/String" "value" "[B")) (.int (Int32.ofNat (lenJS.getD i 0))) ∈ flN := by decide +kernel
set_option maxRecDepth 100000 in
set_option maxHeartbeats 4000000 in
theorem e_hel : ∀ i, i < 9 → ∀ j, j < lenJS.getD i 0 → Cond.eq (.elem (.field (tmS i) "java/lang/String" "value" "[B") (.int (Int32.ofNat j))) (.int ((bytJS.getD i []).getD j 0)) ∈ flN := by decide +kernel
set_option maxRecDepth 100000 in
set_option maxHeartbeats 4000000 in
theorem e_hne : ∀ i, i < 9 → ∀ j, j < 9 → i ≠ j → (Cond.not (Cond.eq (tmS i) (tmS j)) ∈ flN ∨ Cond.not (Cond.eq (tmS j) (tmS i)) ∈ flN) := by decide +kernel
set_option maxRecDepth 100000 in
set_option maxHeartbeats 4000000 in
theorem e_hN : ∀ i, i < 9 → lenJS.getD i 0 < 2 ^ 31 := by decide +kernel
set_option maxRecDepth 100000 in
set_option maxHeartbeats 4000000 in
theorem e_str : ∀ r ∈ SRs, Cond.stringRef r.1 r.2.1 r.2.2.1 ∈ lw_tbl := by decide +kernel
set_option maxRecDepth 100000 in
set_option maxHeartbeats 4000000 in
theorem e_same : ∀ r ∈ SRs, r.2.2.2 < 9 ∧ (tmS r.2.2.2 = .string r.1 r.2.1 ∨ Cond.eq (tmS r.2.2.2) (.string r.1 r.2.1) ∈ flN) := by decide +kernel
set_option maxRecDepth 100000 in
set_option maxHeartbeats 4000000 in
theorem e_nst : ∀ r ∈ NSTs, Cond.methodLinkNest r.1 r.2.1 r.2.2.1 r.2.2.2 ∈ lw_tbl := by decide +kernel
set_option maxRecDepth 100000 in
set_option maxHeartbeats 4000000 in
theorem e_tA : ∀ j, j < 7 → Cond.eq (.elem (.static "SluiceCards$Card" "ABOVE" "[I") (.int (Int32.ofNat j))) (.int (tabA j)) ∈ flN := by decide +kernel
set_option maxRecDepth 100000 in
set_option maxHeartbeats 4000000 in
theorem e_tB : ∀ j, j < 21 → Cond.eq (.elem (.static "SluiceCards$Trace" "BODIES" "[I") (.int (Int32.ofNat j))) (.int (tabB j)) ∈ flN := by decide +kernel
set_option maxRecDepth 100000 in
set_option maxHeartbeats 4000000 in
theorem e_fl : Cond.arrayOf (.static "SluiceCards$Card" "ABOVE" "[I") .int ∈ flN ∧ Cond.eq (.length (.static "SluiceCards$Card" "ABOVE" "[I")) (.int 7) ∈ flN ∧ Cond.arrayOf (.static "SluiceCards$Trace" "BODIES" "[I") .int ∈ flN ∧ Cond.eq (.length (.static "SluiceCards$Trace" "BODIES" "[I")) (.int 21) ∈ flN ∧ Cond.eq (.static "java/lang/String" "COMPACT_STRINGS" "Z") (.int 1) ∈ flN ∧ Cond.isRef (.static "jdk/internal/util/Preconditions" "SIOOBE_FORMATTER" "Ljava/util/function/BiFunction;") ∈ flN := by decide +kernel
set_option maxRecDepth 100000 in
set_option maxHeartbeats 4000000 in
theorem e_ts : (Cond.laysStatic "SluiceCards$Card" "ABOVE" "[I" ∈ lw_tbl ∧ Cond.initialized "SluiceCards$Card" ∈ lw_tbl) ∧ (Cond.laysStatic "SluiceCards$Trace" "BODIES" "[I" ∈ lw_tbl ∧ Cond.initialized "SluiceCards$Trace" ∈ lw_tbl) ∧ (Cond.laysStatic "java/lang/String" "COMPACT_STRINGS" "Z" ∈ lw_tbl ∧ Cond.initialized "java/lang/String" ∈ lw_tbl) ∧ (Cond.laysStatic "jdk/internal/util/Preconditions" "SIOOBE_FORMATTER" "Ljava/util/function/BiFunction;" ∈ lw_tbl ∧ Cond.initialized "jdk/internal/util/Preconditions" ∈ lw_tbl) ∧ Cond.arrayOver (.object "SluiceCards$Card") ∈ lw_tbl ∧ Cond.castable "[I" "java/lang/Cloneable" ∈ lw_tbl ∧ Cond.arrayClass .int ∈ lw_tbl ∧ Cond.arrayClass .boolean ∈ lw_tbl := by decide +kernel
theorem env_of {s : State} {args : Array Value} (hgv : (Jvm.Cond.and given_1 narrow_1).before args s = true) (hts : ∀ w ∈ lw_tbl, w.before args s = true) : ∃ ad : AD, ENV ad (fun q => s.heap.size ≤ q) s s.heap := by
  have hs : ∀ c ∈ flN, c.before args s = true := flat_of_before _ hgv
  have hA : ∀ a : Nat, a < s.heap.size → ¬ (fun q : Nat => s.heap.size ≤ q) a := fun a h => Nat.not_le.mpr h
  obtain ⟨adK, adV, hV, hT⟩ := vk_Sof (N := 9) (tm := tmS) (len := lenJS) (byt := bytJS) (A := fun q => s.heap.size ≤ q) e_hN (fun i hi => hs _ (e_hex i hi)) (fun i hi => hs _ (e_hco i hi)) (fun i hi => hs _ (e_har i hi)) (fun i hi => hs _ (e_hle i hi)) (fun i hi j hj => hs _ (e_hel i hi j hj)) (fun i j hi hj hij => (e_hne i hi j hj hij).imp (hs _) (hs _)) hA
  obtain ⟨f1, f2, f3, f4, f5, f6⟩ := e_fl
  obtain ⟨⟨t1, t2⟩, ⟨t3, t4⟩, ⟨t5, t6⟩, ⟨t7, t8⟩, t9, t10, t11, t12⟩ := e_ts
  obtain ⟨tA, a1, a2⟩ := va_Tof (tm := .static "SluiceCards$Card" "ABOVE" "[I") (ty := .int) (N := 7) (f := fun j => .int (tabA j)) (A := fun q => s.heap.size ≤ q) (by decide) (hs _ f1) (va_eqt (hs _ f2)) (fun j hj => va_eqt (hs _ (e_tA j hj))) hA
  obtain ⟨tB, b1, b2⟩ := va_Tof (tm := .static "SluiceCards$Trace" "BODIES" "[I") (ty := .int) (N := 21) (f := fun j => .int (tabB j)) (A := fun q => s.heap.size ≤ q) (by decide) (hs _ f3) (va_eqt (hs _ f4)) (fun j hj => va_eqt (hs _ (e_tB j hj))) hA
  refine ⟨(adK, adV, tA, tB), hV, fun r hr => ?_, fun r hr => va_Nw.of rfl (hts _ (e_nst r hr)), va_AO.of (hts _ t9), va_Nw.of rfl (hts _ t10), va_Zof (hts _ t5) (hts _ t6) (va_eqi (hs _ f5)) hA, ⟨va_Zof (hts _ t1) (hts _ t2) a1 hA, a2⟩, ⟨va_Zof (hts _ t3) (hts _ t4) b1 hA, b2⟩, ?_⟩
  · obtain ⟨h9, h⟩ := e_same r hr
    refine vk_R.of (hts _ (e_str r hr)) ?_
    have h0 := hT _ h9
    rcases h with h | h
    · rw [← h]; exact h0
    · exact va_eqR (hs _ h) h0
  · rcases va_Zqof (A := fun q => s.heap.size ≤ q) (hts _ t7) (hts _ t8) (hs _ f6) hA with h | ⟨t, h⟩
    · exact ⟨none, h⟩
    · exact ⟨some t, h⟩
theorem tys_of {s : State} {args : Array Value} (hts : ∀ w ∈ lw_tbl, w.before args s = true) : ∃ cyI cyZ cyC : ClassId, ∀ (k : Nat) (q : ClassId × FieldType), (TYs cyI cyZ cyC)[k]? = some q → ArrOfT s q.1 q.2 ∧ va_RA s q.1 q.2 := by
  obtain ⟨-, -, -, -, t9, -, t11, t12⟩ := e_ts
  obtain ⟨cyI, kI, compI, i1, i2, i3⟩ := Cond.arrayClass_spec (hts _ t11)
  obtain ⟨cyZ, kZ, compZ, z1, z2, z3⟩ := Cond.arrayClass_spec (hts _ t12)
  obtain ⟨compC, cyC, kC, c1, c2, c3, c4, c5⟩ := Cond.arrayOver_spec (hts _ t9)
  refine ⟨cyI, cyZ, cyC, fun k q hq => ?_⟩
  match k, hq with
  | 0, hq => cases hq; exact ⟨fun n z => ⟨(fun k h => by cases h), kI, i2, compI, i3⟩, i1⟩
  | 1, hq => cases hq; exact ⟨fun n z => ⟨(fun k h => by cases h), kZ, z2, compZ, z3⟩, z1⟩
  | 2, hq => cases hq; exact ⟨fun n z => ⟨(fun k h => by cases h), kC, c3, compC, c4⟩, kC, compC, c3, c4, c1, c5⟩
  | k + 3, hq => simp at hq

theorem va_joinC {A0 : Nat → Prop} {D : va_G} {cl : List vw_C} {ws fr wc w1 fo : va_W} {H H1 : Heap} (hP : va_P D cl (ws ++ fr) H) (hD : va_D A0 (ws ++ fr)) (isC : List Nat) (hC : isC.map (fun i => ws[i]?) = wc.map some) (hfst : w1.map Prod.fst = wc.map Prod.fst)
    (hk : ∀ q : Nat, q < H.size → ¬ va_A wc H.size q → H1[q]? = H[q]?) (hF : ∀ q, va_A wc H.size q → A0 q) (hP1 : va_P D cl (w1 ++ fo) H1) (hD1 : va_D (va_A wc H.size) (w1 ++ fo)) : va_P D cl (va_sets ws isC w1 ++ (fo ++ fr)) H1 ∧ va_D A0 (va_sets ws isC w1 ++ (fo ++ fr)) := by
  obtain ⟨j1, j2⟩ := va_joinS hP hD isC hC hfst hk hP1.left
  have hbig : ∀ (k : Nat) (q : Nat × va_E), fo[k]? = some q → H.size ≤ q.1 := by
    intro k q hq
    rcases hD1.right.2 k q hq with ⟨k2, e, h⟩ | h
    · exfalso
      have h2 : (w1.map Prod.fst)[k2]? = some q.1 := by rw [hfst, List.getElem?_map, h]; rfl
      rw [List.getElem?_map] at h2
      cases hw : w1[k2]? with
      | none => rw [hw] at h2; cases h2
      | some d =>
        rw [hw] at h2
        exact hD1.cross k2 k d q hw hq (Option.some.inj h2)
    · exact h
  have hlt : ∀ (k : Nat) (q : Nat × va_E), (va_sets ws isC w1)[k]? = some q → q.1 < H.size := by
    intro k q hq
    have h1 : ((va_sets ws isC w1).map Prod.fst)[k]? = some q.1 := by rw [List.getElem?_map, hq]; rfl
    have hf : (va_sets ws isC w1).map Prod.fst = ws.map Prod.fst := by
      refine va_sets_fst isC ws w1 fun k i c hi hc => ?_
      have h1 : (isC.map (fun i => ws[i]?))[k]? = some (ws[i]?) := by rw [List.getElem?_map, hi]; rfl
      rw [hC, List.getElem?_map] at h1
      have h2 : (w1.map Prod.fst)[k]? = some c.1 := by rw [List.getElem?_map, hc]; rfl
      rw [hfst, List.getElem?_map] at h2
      cases hw : wc[k]? with
      | none => rw [hw] at h2; cases h2
      | some d =>
        rw [hw] at h1 h2
        exact ⟨d, (Option.some.inj h1).symm, Option.some.inj h2⟩
    rw [hf, List.getElem?_map] at h1
    cases hw : ws[k]? with
    | none => rw [hw] at h1; cases h1
    | some d =>
      rw [hw] at h1
      rw [← Option.some.inj h1]
      exact (hP.left k d hw).lt
  have hfo : va_D A0 fo := hD1.right.weaken fun k q _ h => hF _ h
  refine ⟨va_P.app j1.left (va_P.app hP1.right j1.right), va_D.app j2.left (va_D.app hfo j2.right fun i j p q hi hj e => ?_) fun i j p q hi hj e => ?_⟩
  · have h1 := hbig i p hi
    have h2 := (hP.right j q hj).lt
    omega
  · have h1 := hlt i p hi
    by_cases hl : j < fo.length
    · rw [List.getElem?_append_left hl] at hj
      have h2 := hbig j q hj
      omega
    · rw [List.getElem?_append_right (by omega)] at hj
      exact j2.cross i _ p q hi hj e
theorem hin_card {cyI : ClassId} {fr : va_W} {ce : Nat → CT} {cin : Nat → Prop} (hin : ∀ a, cin a → IsC cyI ([] ++ fr) a (ce a)) (oc : Option (Nat × Nat × Nat × Nat × Nat × CT)) : ∀ a, cinU cin (oc.map (fun x => (x.1, x.2.2.2.2.2))) a → IsC cyI ([] ++ (FRo cyI oc ++ fr)) a (ceU ce (oc.map (fun x => (x.1, x.2.2.2.2.2))) a) := by
  cases oc with
  | none => exact hin
  | some x => exact hin_up (r1 := [] ++ fr) hin (a := x.1) ⟨x.2.1, x.2.2.1, x.2.2.2.1, x.2.2.2.2.1, fun q hq => List.mem_append_right _ (List.mem_append_left _ hq)⟩ (fun q hq => List.mem_append_right _ (List.mem_append_right _ ((List.mem_append.mp hq).resolve_left List.not_mem_nil)))
