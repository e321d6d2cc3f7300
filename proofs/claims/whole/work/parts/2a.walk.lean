/-! ===== by program: contracts ===== -/
set_option maxHeartbeats 8000000 in
set_option maxRecDepth 100000 in
theorem MX11_in (l : Launch) (D : va_G) (cyI cyZ cyC : ClassId) (ro : va_W) (ce : Nat → CT) (cin : Nat → Prop) (ad : AD) (sz : Nat) (x0 : Int32) (x1 : Int32) (x2 : Int32) (Q : Int32 → Prop)  (hw : WX11_in x0 x1 x2 Q) : Met l yX11_in wsX11_in ({ frames := 0, cells := 0, slots := 0, locals := 0 }) (va_Pc [.int x0, .int x1, .int x2] (PRE D cyI cyZ cyC ro ce cin ad (SX11_in cyI cyZ cyC) sz)) (va_Qi (fun (r : Int32) (_ : Unit) => Q r) (fun (_ : Unit) (t : State) => POST D (va_A (SX11_in cyI cyZ cyC) sz) (SX11_in cyI cyZ cyC) t) (va_A (SX11_in cyI cyZ cyC) sz)) 0 0 (va_A (SX11_in cyI cyZ cyC) sz) := by
  refine Met.ofW (cc := cX11_in) (maxL := 3) (ret := (some .boolean)) (by decide +kernel) rfl ?_
  intro p e s m args below meth c s₁ B hml hv
  obtain ⟨rfl, hsz, hP, hK, hD0, hX⟩ := hv
  have hx := B.exec
  have hb := B.bytes
  have hr := B.returns
  have hts := atoms_spec (ws := wsX11_in) B.pre
  have hown : s.vm.findClass RX11 = some m.cls := findClass_of_methodNamed B.named
  have hlocks := B.notSynchronized
  clear B
  subst hsz
  have hD := hD0.self (sz := s.heap.size)
  clear hD0
  generalize hAe : va_A (SX11_in cyI cyZ cyC) s.heap.size = A at hD hX ⊢
  have hA : ∀ q : Nat, s.heap.size ≤ q → A q := fun q h => by rw [← hAe]; exact Or.inr h
  clear hAe
  obtain ⟨H, hH⟩ : ∃ H, H = s.heap := ⟨_, rfl⟩
  rw [← hH] at hP ⊢
  have hS : va_S A s.heap H [] := by rw [hH]; exact va_S.rf
  clear hH
  replace hP : va_P D vwCl [] H := hP
  replace hD : va_D A [] := hD
  have hl := lv_entry ([.int x0, .int x1, .int x2]) (n := 3) (Nat.le_of_ble_eq_true rfl)
  rw [lg_entry_eq]
  generalize (lg_sl ([.int x0, .int x1, .int x2]) ++ List.replicate (3 - (lg_sl ([.int x0, .int x1, .int x2])).length) Slot.unset).toArray = ls at hl ⊢
  replace hl : lv_has ls 3 [(0, .int x0), (1, .int x1), (2, .int x2)] := hl
  unfold WX11_in at hw
  refine lv_iload_n hx hb dX11_in_0 rfl (lv_at hl 0 rfl) ?_
  refine lv_iload_n hx hb dX11_in_1 rfl (lv_at hl 1 rfl) ?_
  refine lv_icmp_lt (tgt := 14) hx hb dX11_in_2 (by decide) (fun c1 => ?_) (fun c1 => ?_)
  · replace hw := hw.1 c1
    refine lv_iconst (v := 0) hx hb dX11_in_14 (by decide) ?_
    exact W.zret (v := 0) hx hb hr rfl (fun t ht hW => ⟨⟨0, (), rfl, hw, post_mk ht hP hD⟩, hS.F ht⟩) hS.2.2 dX11_in_15 hlocks
  · replace hw := hw.2 c1
    refine lv_iload_n hx hb dX11_in_5 rfl (lv_at hl 0 rfl) ?_
    refine lv_iload_n hx hb dX11_in_6 rfl (lv_at hl 2 rfl) ?_
    refine lv_icmp_gt (tgt := 14) hx hb dX11_in_7 (by decide) (fun c2 => ?_) (fun c2 => ?_)
    · replace hw := hw.1 c2
      refine lv_iconst (v := 0) hx hb dX11_in_14 (by decide) ?_
      exact W.zret (v := 0) hx hb hr rfl (fun t ht hW => ⟨⟨0, (), rfl, hw, post_mk ht hP hD⟩, hS.F ht⟩) hS.2.2 dX11_in_15 hlocks
    · replace hw := hw.2 c2
      refine lv_iconst (v := 1) hx hb dX11_in_10 (by decide) ?_
      refine lv_goto (tgt := 15) hx hb dX11_in_11 (by decide) ?_
      exact W.zret (v := 1) hx hb hr rfl (fun t ht hW => ⟨⟨1, (), rfl, hw, post_mk ht hP hD⟩, hS.F ht⟩) hS.2.2 dX11_in_15 hlocks
set_option maxHeartbeats 8000000 in
set_option maxRecDepth 100000 in
theorem MX11_isReach (l : Launch) (D : va_G) (cyI cyZ cyC : ClassId) (ro : va_W) (ce : Nat → CT) (cin : Nat → Prop) (ad : AD) (a_t a_t_s : Nat) (w_t_thrown w_t_image w_t_hasImage w_t_act w_t_spot w_t_end w_t_isWrong w_t_open w_t_readMany w_t_readSpan w_t_readSum w_t_readOdds w_t_readBank w_t_readMill w_t_readLevel w_t_levels w_t_boardsNow w_t_ways w_t_nexts w_t_hourNow w_t_staying w_t_leftCard w_t_leftLine w_t_isMute w_t_higher w_t_over w_t_dry w_t_truths w_t_failHours w_t_failRow w_t_keptBoards w_t_keptHung w_t_bodies w_t_ran w_t_kind w_t_number w_t_tellsV : Value) (sz : Nat) (x1 : Int32) (f_t_s : Nat → Int32) (Q : Int32 → Prop)  (hw : WX11_isReach x1 f_t_s Q) : Met l yX11_isReach wsX11_isReach ({ frames := 1, cells := 0, slots := 0, locals := 22 }) (va_Pc [.ref a_t, .int x1] (PRE D cyI cyZ cyC ro ce cin ad (SX11_isReach cyI cyZ cyC a_t a_t_s w_t_thrown w_t_image w_t_hasImage w_t_act w_t_spot w_t_end w_t_isWrong w_t_open w_t_readMany w_t_readSpan w_t_readSum w_t_readOdds w_t_readBank w_t_readMill w_t_readLevel w_t_levels w_t_boardsNow w_t_ways w_t_nexts w_t_hourNow w_t_staying w_t_leftCard w_t_leftLine w_t_isMute w_t_higher w_t_over w_t_dry w_t_truths w_t_failHours w_t_failRow w_t_keptBoards w_t_keptHung w_t_bodies w_t_ran w_t_kind w_t_number w_t_tellsV  f_t_s) sz)) (va_Qi (fun (r : Int32) (_ : Unit) => Q r) (fun (_ : Unit) (t : State) => POST D (va_A (SX11_isReach cyI cyZ cyC a_t a_t_s w_t_thrown w_t_image w_t_hasImage w_t_act w_t_spot w_t_end w_t_isWrong w_t_open w_t_readMany w_t_readSpan w_t_readSum w_t_readOdds w_t_readBank w_t_readMill w_t_readLevel w_t_levels w_t_boardsNow w_t_ways w_t_nexts w_t_hourNow w_t_staying w_t_leftCard w_t_leftLine w_t_isMute w_t_higher w_t_over w_t_dry w_t_truths w_t_failHours w_t_failRow w_t_keptBoards w_t_keptHung w_t_bodies w_t_ran w_t_kind w_t_number w_t_tellsV  f_t_s) sz) (SX11_isReach cyI cyZ cyC a_t a_t_s w_t_thrown w_t_image w_t_hasImage w_t_act w_t_spot w_t_end w_t_isWrong w_t_open w_t_readMany w_t_readSpan w_t_readSum w_t_readOdds w_t_readBank w_t_readMill w_t_readLevel w_t_levels w_t_boardsNow w_t_ways w_t_nexts w_t_hourNow w_t_staying w_t_leftCard w_t_leftLine w_t_isMute w_t_higher w_t_over w_t_dry w_t_truths w_t_failHours w_t_failRow w_t_keptBoards w_t_keptHung w_t_bodies w_t_ran w_t_kind w_t_number w_t_tellsV  f_t_s) t) (va_A (SX11_isReach cyI cyZ cyC a_t a_t_s w_t_thrown w_t_image w_t_hasImage w_t_act w_t_spot w_t_end w_t_isWrong w_t_open w_t_readMany w_t_readSpan w_t_readSum w_t_readOdds w_t_readBank w_t_readMill w_t_readLevel w_t_levels w_t_boardsNow w_t_ways w_t_nexts w_t_hourNow w_t_staying w_t_leftCard w_t_leftLine w_t_isMute w_t_higher w_t_over w_t_dry w_t_truths w_t_failHours w_t_failRow w_t_keptBoards w_t_keptHung w_t_bodies w_t_ran w_t_kind w_t_number w_t_tellsV  f_t_s) sz)) 0 0 (va_A (SX11_isReach cyI cyZ cyC a_t a_t_s w_t_thrown w_t_image w_t_hasImage w_t_act w_t_spot w_t_end w_t_isWrong w_t_open w_t_readMany w_t_readSpan w_t_readSum w_t_readOdds w_t_readBank w_t_readMill w_t_readLevel w_t_levels w_t_boardsNow w_t_ways w_t_nexts w_t_hourNow w_t_staying w_t_leftCard w_t_leftLine w_t_isMute w_t_higher w_t_over w_t_dry w_t_truths w_t_failHours w_t_failRow w_t_keptBoards w_t_keptHung w_t_bodies w_t_ran w_t_kind w_t_number w_t_tellsV  f_t_s) sz) := by
  refine Met.ofW (cc := cX11_isReach) (maxL := 2) (ret := (some .boolean)) (by decide +kernel) rfl ?_
  intro p e s m args below meth c s₁ B hml hv
  obtain ⟨rfl, hsz, hP, hK, hD0, hX⟩ := hv
  have hx := B.exec
  have hb := B.bytes
  have hr := B.returns
  have hts := atoms_spec (ws := wsX11_isReach) B.pre
  have hown : s.vm.findClass RX11 = some m.cls := findClass_of_methodNamed B.named
  have hlocks := B.notSynchronized
  clear B
  subst hsz
  have hD := hD0.self (sz := s.heap.size)
  clear hD0
  generalize hAe : va_A (SX11_isReach cyI cyZ cyC a_t a_t_s w_t_thrown w_t_image w_t_hasImage w_t_act w_t_spot w_t_end w_t_isWrong w_t_open w_t_readMany w_t_readSpan w_t_readSum w_t_readOdds w_t_readBank w_t_readMill w_t_readLevel w_t_levels w_t_boardsNow w_t_ways w_t_nexts w_t_hourNow w_t_staying w_t_leftCard w_t_leftLine w_t_isMute w_t_higher w_t_over w_t_dry w_t_truths w_t_failHours w_t_failRow w_t_keptBoards w_t_keptHung w_t_bodies w_t_ran w_t_kind w_t_number w_t_tellsV  f_t_s) s.heap.size = A at hD hX ⊢
  have hA : ∀ q : Nat, s.heap.size ≤ q → A q := fun q h => by rw [← hAe]; exact Or.inr h
  clear hAe
  obtain ⟨H, hH⟩ : ∃ H, H = s.heap := ⟨_, rfl⟩
  rw [← hH] at hP ⊢
  have hS : va_S A s.heap H [] := by rw [hH]; exact va_S.rf
  clear hH
  replace hP : va_P D vwCl [(a_t, .inr (10, [w_t_thrown, .ref a_t_s, w_t_image, w_t_hasImage, w_t_act, w_t_spot, w_t_end, w_t_isWrong, w_t_open, w_t_readMany, w_t_readSpan, w_t_readSum, w_t_readOdds, w_t_readBank, w_t_readMill, w_t_readLevel, w_t_levels, w_t_boardsNow, w_t_ways, w_t_nexts, w_t_hourNow, w_t_staying, w_t_leftCard, w_t_leftLine, w_t_isMute, w_t_higher, w_t_over, w_t_dry, w_t_truths, w_t_failHours, w_t_failRow, w_t_keptBoards, w_t_keptHung, w_t_bodies, w_t_ran, w_t_kind, w_t_number, w_t_tellsV])), (a_t_s, .inl (cyI, 1454, .inl f_t_s))] H := hP
  replace hD : va_D A [(a_t, .inr (10, [w_t_thrown, .ref a_t_s, w_t_image, w_t_hasImage, w_t_act, w_t_spot, w_t_end, w_t_isWrong, w_t_open, w_t_readMany, w_t_readSpan, w_t_readSum, w_t_readOdds, w_t_readBank, w_t_readMill, w_t_readLevel, w_t_levels, w_t_boardsNow, w_t_ways, w_t_nexts, w_t_hourNow, w_t_staying, w_t_leftCard, w_t_leftLine, w_t_isMute, w_t_higher, w_t_over, w_t_dry, w_t_truths, w_t_failHours, w_t_failRow, w_t_keptBoards, w_t_keptHung, w_t_bodies, w_t_ran, w_t_kind, w_t_number, w_t_tellsV])), (a_t_s, .inl (cyI, 1454, .inl f_t_s))] := hD
  have hl := lv_entry ([.ref a_t, .int x1]) (n := 2) (Nat.le_of_ble_eq_true rfl)
  rw [lg_entry_eq]
  generalize (lg_sl ([.ref a_t, .int x1]) ++ List.replicate (2 - (lg_sl ([.ref a_t, .int x1])).length) Slot.unset).toArray = ls at hl ⊢
  replace hl : lv_has ls 2 [(0, .ref a_t), (1, .int x1)] := hl
  unfold WX11_isReach at hw
  refine lv_iload_n hx hb dX11_isReach_0 rfl (lv_at hl 1 rfl) ?_
  refine lv_iconst (v := 0) hx hb dX11_isReach_1 (by decide) ?_
  refine lv_aload_n hx hb dX11_isReach_2 rfl (lv_at hl 0 rfl) ?_
  refine va_get (D := D) (ci := 10) (v := .ref a_t_s) (C := RX11) (T := TX11) (N := 38) hx hb hts inX11_isReach_X11 hown hK hP 0 rfl rfl 1 (by decide) (hts _ (List.mem_of_getElem? (i := 1) rfl)) (fun _ h9 => h9) rfl dX11_isReach_3 ?_
  refine lv_iconst (v := 0) hx hb dX11_isReach_6 (by decide) ?_
  refine va_iald hx hb hK hP 1 0 rfl rfl (vpc rfl) dX11_isReach_7 ?_
  refine lv_iconst (v := 1) hx hb dX11_isReach_8 (by decide) ?_
  refine lv_isub hx hb dX11_isReach_9 ?_
  obtain ⟨QK, eQ, hq⟩ := genq (P := WX11_in x1 0 ((f_t_s (0 : Int32).toNatClampNeg) - 1)) hw
  clear hw
  have hPc := hP.sub (ws' := []) [] rfl
  have hDc := hD.sub (ws' := []) [] (by decide) rfl
  have hFc := va_free (wc := []) hD hS hA [] rfl
  refine va_calli (va_runS (As := [.int x1, .int 0, .int ((f_t_s (0 : Int32).toNatClampNeg) - 1)]) (rest := []) ⟨hx, hb, hml, hown, hts⟩ (MX11_in l D cyI cyZ cyC ro ce cin ad    H.size x1 0 ((f_t_s (0 : Int32).toNatClampNeg) - 1) QK  hq) (va_cwS 3 hts gX11_isReach_X11_in rfl rfl rfl dmX11_in ⟨Nat.le_of_ble_eq_true rfl, Nat.le_of_ble_eq_true rfl⟩) ⟨pre_bl, fun U hU hW => ⟨rfl, pre_of hX hS hK hPc hDc hFc hU hW⟩⟩ rfl rfl hl.1 rfl (lv_room (Nat.le_of_ble_eq_true rfl)) dX11_isReach_10 ⟨Nat.zero_le _, Nat.zero_le _⟩) hS (fun q _ h => hFc q h) hFc (fun r1 u t H1 locs ht hvm hw hB hz1 hk1 hS => ?_)
  replace hw : QK r1 := hw
  clear hq
  subst eQ
  obtain ⟨hP1, hD1⟩ := hB
  rw [ht] at hP1
  obtain ⟨hP, hD⟩ := va_join (wr := [(a_t, .inr (10, [w_t_thrown, .ref a_t_s, w_t_image, w_t_hasImage, w_t_act, w_t_spot, w_t_end, w_t_isWrong, w_t_open, w_t_readMany, w_t_readSpan, w_t_readSum, w_t_readOdds, w_t_readBank, w_t_readMill, w_t_readLevel, w_t_levels, w_t_boardsNow, w_t_ways, w_t_nexts, w_t_hourNow, w_t_staying, w_t_leftCard, w_t_leftLine, w_t_isMute, w_t_higher, w_t_over, w_t_dry, w_t_truths, w_t_failHours, w_t_failRow, w_t_keptBoards, w_t_keptHung, w_t_bodies, w_t_ran, w_t_kind, w_t_number, w_t_tellsV])), (a_t_s, .inl (cyI, 1454, .inl f_t_s))]) (w1 := []) hP hD [] [0, 1] rfl rfl (by decide) (by decide) hk1 hFc hP1 hD1
  clear hPc hDc hFc hk1 hz1 hP1 hD1 ht hvm
  generalize H1 = H at hP hS ⊢
  replace hP : va_P D vwCl [(a_t, .inr (10, [w_t_thrown, .ref a_t_s, w_t_image, w_t_hasImage, w_t_act, w_t_spot, w_t_end, w_t_isWrong, w_t_open, w_t_readMany, w_t_readSpan, w_t_readSum, w_t_readOdds, w_t_readBank, w_t_readMill, w_t_readLevel, w_t_levels, w_t_boardsNow, w_t_ways, w_t_nexts, w_t_hourNow, w_t_staying, w_t_leftCard, w_t_leftLine, w_t_isMute, w_t_higher, w_t_over, w_t_dry, w_t_truths, w_t_failHours, w_t_failRow, w_t_keptBoards, w_t_keptHung, w_t_bodies, w_t_ran, w_t_kind, w_t_number, w_t_tellsV])), (a_t_s, .inl (cyI, 1454, .inl f_t_s))] H := hP
  replace hD : va_D A [(a_t, .inr (10, [w_t_thrown, .ref a_t_s, w_t_image, w_t_hasImage, w_t_act, w_t_spot, w_t_end, w_t_isWrong, w_t_open, w_t_readMany, w_t_readSpan, w_t_readSum, w_t_readOdds, w_t_readBank, w_t_readMill, w_t_readLevel, w_t_levels, w_t_boardsNow, w_t_ways, w_t_nexts, w_t_hourNow, w_t_staying, w_t_leftCard, w_t_leftLine, w_t_isMute, w_t_higher, w_t_over, w_t_dry, w_t_truths, w_t_failHours, w_t_failRow, w_t_keptBoards, w_t_keptHung, w_t_bodies, w_t_ran, w_t_kind, w_t_number, w_t_tellsV])), (a_t_s, .inl (cyI, 1454, .inl f_t_s))] := hD
  have hib := hw.1
  replace hw := hw.2
  exact W.zret (v := r1) hx hb hr (isB_nar hib) (fun t ht hW => ⟨⟨r1, (), rfl, hw, post_mk ht hP hD⟩, hS.F ht⟩) hS.2.2 dX11_isReach_13 hlocks
set_option maxHeartbeats 8000000 in
set_option maxRecDepth 100000 in
theorem MX11_isCard (l : Launch) (D : va_G) (cyI cyZ cyC : ClassId) (ro : va_W) (ce : Nat → CT) (cin : Nat → Prop) (ad : AD) (a_t a_t_s : Nat) (w_t_thrown w_t_image w_t_hasImage w_t_act w_t_spot w_t_end w_t_isWrong w_t_open w_t_readMany w_t_readSpan w_t_readSum w_t_readOdds w_t_readBank w_t_readMill w_t_readLevel w_t_levels w_t_boardsNow w_t_ways w_t_nexts w_t_hourNow w_t_staying w_t_leftCard w_t_leftLine w_t_isMute w_t_higher w_t_over w_t_dry w_t_truths w_t_failHours w_t_failRow w_t_keptBoards w_t_keptHung w_t_bodies w_t_ran w_t_kind w_t_number w_t_tellsV : Value) (sz : Nat) (x1 : Int32) (f_t_s : Nat → Int32) (Q : Int32 → Prop)  (hw : WX11_isCard x1 f_t_s Q) : Met l yX11_isCard wsX11_isCard ({ frames := 1, cells := 0, slots := 0, locals := 22 }) (va_Pc [.ref a_t, .int x1] (PRE D cyI cyZ cyC ro ce cin ad (SX11_isCard cyI cyZ cyC a_t a_t_s w_t_thrown w_t_image w_t_hasImage w_t_act w_t_spot w_t_end w_t_isWrong w_t_open w_t_readMany w_t_readSpan w_t_readSum w_t_readOdds w_t_readBank w_t_readMill w_t_readLevel w_t_levels w_t_boardsNow w_t_ways w_t_nexts w_t_hourNow w_t_staying w_t_leftCard w_t_leftLine w_t_isMute w_t_higher w_t_over w_t_dry w_t_truths w_t_failHours w_t_failRow w_t_keptBoards w_t_keptHung w_t_bodies w_t_ran w_t_kind w_t_number w_t_tellsV  f_t_s) sz)) (va_Qi (fun (r : Int32) (_ : Unit) => Q r) (fun (_ : Unit) (t : State) => POST D (va_A (SX11_isCard cyI cyZ cyC a_t a_t_s w_t_thrown w_t_image w_t_hasImage w_t_act w_t_spot w_t_end w_t_isWrong w_t_open w_t_readMany w_t_readSpan w_t_readSum w_t_readOdds w_t_readBank w_t_readMill w_t_readLevel w_t_levels w_t_boardsNow w_t_ways w_t_nexts w_t_hourNow w_t_staying w_t_leftCard w_t_leftLine w_t_isMute w_t_higher w_t_over w_t_dry w_t_truths w_t_failHours w_t_failRow w_t_keptBoards w_t_keptHung w_t_bodies w_t_ran w_t_kind w_t_number w_t_tellsV  f_t_s) sz) (SX11_isCard cyI cyZ cyC a_t a_t_s w_t_thrown w_t_image w_t_hasImage w_t_act w_t_spot w_t_end w_t_isWrong w_t_open w_t_readMany w_t_readSpan w_t_readSum w_t_readOdds w_t_readBank w_t_readMill w_t_readLevel w_t_levels w_t_boardsNow w_t_ways w_t_nexts w_t_hourNow w_t_staying w_t_leftCard w_t_leftLine w_t_isMute w_t_higher w_t_over w_t_dry w_t_truths w_t_failHours w_t_failRow w_t_keptBoards w_t_keptHung w_t_bodies w_t_ran w_t_kind w_t_number w_t_tellsV  f_t_s) t) (va_A (SX11_isCard cyI cyZ cyC a_t a_t_s w_t_thrown w_t_image w_t_hasImage w_t_act w_t_spot w_t_end w_t_isWrong w_t_open w_t_readMany w_t_readSpan w_t_readSum w_t_readOdds w_t_readBank w_t_readMill w_t_readLevel w_t_levels w_t_boardsNow w_t_ways w_t_nexts w_t_hourNow w_t_staying w_t_leftCard w_t_leftLine w_t_isMute w_t_higher w_t_over w_t_dry w_t_truths w_t_failHours w_t_failRow w_t_keptBoards w_t_keptHung w_t_bodies w_t_ran w_t_kind w_t_number w_t_tellsV  f_t_s) sz)) 0 0 (va_A (SX11_isCard cyI cyZ cyC a_t a_t_s w_t_thrown w_t_image w_t_hasImage w_t_act w_t_spot w_t_end w_t_isWrong w_t_open w_t_readMany w_t_readSpan w_t_readSum w_t_readOdds w_t_readBank w_t_readMill w_t_readLevel w_t_levels w_t_boardsNow w_t_ways w_t_nexts w_t_hourNow w_t_staying w_t_leftCard w_t_leftLine w_t_isMute w_t_higher w_t_over w_t_dry w_t_truths w_t_failHours w_t_failRow w_t_keptBoards w_t_keptHung w_t_bodies w_t_ran w_t_kind w_t_number w_t_tellsV  f_t_s) sz) := by
  refine Met.ofW (cc := cX11_isCard) (maxL := 2) (ret := (some .boolean)) (by decide +kernel) rfl ?_
  intro p e s m args below meth c s₁ B hml hv
  obtain ⟨rfl, hsz, hP, hK, hD0, hX⟩ := hv
  have hx := B.exec
  have hb := B.bytes
  have hr := B.returns
  have hts := atoms_spec (ws := wsX11_isCard) B.pre
  have hown : s.vm.findClass RX11 = some m.cls := findClass_of_methodNamed B.named
  have hlocks := B.notSynchronized
  clear B
  subst hsz
  have hD := hD0.self (sz := s.heap.size)
  clear hD0
  generalize hAe : va_A (SX11_isCard cyI cyZ cyC a_t a_t_s w_t_thrown w_t_image w_t_hasImage w_t_act w_t_spot w_t_end w_t_isWrong w_t_open w_t_readMany w_t_readSpan w_t_readSum w_t_readOdds w_t_readBank w_t_readMill w_t_readLevel w_t_levels w_t_boardsNow w_t_ways w_t_nexts w_t_hourNow w_t_staying w_t_leftCard w_t_leftLine w_t_isMute w_t_higher w_t_over w_t_dry w_t_truths w_t_failHours w_t_failRow w_t_keptBoards w_t_keptHung w_t_bodies w_t_ran w_t_kind w_t_number w_t_tellsV  f_t_s) s.heap.size = A at hD hX ⊢
  have hA : ∀ q : Nat, s.heap.size ≤ q → A q := fun q h => by rw [← hAe]; exact Or.inr h
  clear hAe
  obtain ⟨H, hH⟩ : ∃ H, H = s.heap := ⟨_, rfl⟩
  rw [← hH] at hP ⊢
  have hS : va_S A s.heap H [] := by rw [hH]; exact va_S.rf
  clear hH
  replace hP : va_P D vwCl [(a_t, .inr (10, [w_t_thrown, .ref a_t_s, w_t_image, w_t_hasImage, w_t_act, w_t_spot, w_t_end, w_t_isWrong, w_t_open, w_t_readMany, w_t_readSpan, w_t_readSum, w_t_readOdds, w_t_readBank, w_t_readMill, w_t_readLevel, w_t_levels, w_t_boardsNow, w_t_ways, w_t_nexts, w_t_hourNow, w_t_staying, w_t_leftCard, w_t_leftLine, w_t_isMute, w_t_higher, w_t_over, w_t_dry, w_t_truths, w_t_failHours, w_t_failRow, w_t_keptBoards, w_t_keptHung, w_t_bodies, w_t_ran, w_t_kind, w_t_number, w_t_tellsV])), (a_t_s, .inl (cyI, 1454, .inl f_t_s))] H := hP
  replace hD : va_D A [(a_t, .inr (10, [w_t_thrown, .ref a_t_s, w_t_image, w_t_hasImage, w_t_act, w_t_spot, w_t_end, w_t_isWrong, w_t_open, w_t_readMany, w_t_readSpan, w_t_readSum, w_t_readOdds, w_t_readBank, w_t_readMill, w_t_readLevel, w_t_levels, w_t_boardsNow, w_t_ways, w_t_nexts, w_t_hourNow, w_t_staying, w_t_leftCard, w_t_leftLine, w_t_isMute, w_t_higher, w_t_over, w_t_dry, w_t_truths, w_t_failHours, w_t_failRow, w_t_keptBoards, w_t_keptHung, w_t_bodies, w_t_ran, w_t_kind, w_t_number, w_t_tellsV])), (a_t_s, .inl (cyI, 1454, .inl f_t_s))] := hD
  have hl := lv_entry ([.ref a_t, .int x1]) (n := 2) (Nat.le_of_ble_eq_true rfl)
  rw [lg_entry_eq]
  generalize (lg_sl ([.ref a_t, .int x1]) ++ List.replicate (2 - (lg_sl ([.ref a_t, .int x1])).length) Slot.unset).toArray = ls at hl ⊢
  replace hl : lv_has ls 2 [(0, .ref a_t), (1, .int x1)] := hl
  unfold WX11_isCard at hw
  refine lv_iload_n hx hb dX11_isCard_0 rfl (lv_at hl 1 rfl) ?_
  refine lv_iconst (v := 0) hx hb dX11_isCard_1 (by decide) ?_
  refine lv_aload_n hx hb dX11_isCard_2 rfl (lv_at hl 0 rfl) ?_
  refine va_get (D := D) (ci := 10) (v := .ref a_t_s) (C := RX11) (T := TX11) (N := 38) hx hb hts inX11_isCard_X11 hown hK hP 0 rfl rfl 1 (by decide) (hts _ (List.mem_of_getElem? (i := 1) rfl)) (fun _ h9 => h9) rfl dX11_isCard_3 ?_
  refine lv_iconst (v := 5) hx hb dX11_isCard_6 (by decide) ?_
  refine va_iald hx hb hK hP 1 0 rfl rfl (vpc rfl) dX11_isCard_7 ?_
  refine lv_iconst (v := 1) hx hb dX11_isCard_8 (by decide) ?_
  refine lv_isub hx hb dX11_isCard_9 ?_
  obtain ⟨QK, eQ, hq⟩ := genq (P := WX11_in x1 0 ((f_t_s (5 : Int32).toNatClampNeg) - 1)) hw
  clear hw
  have hPc := hP.sub (ws' := []) [] rfl
  have hDc := hD.sub (ws' := []) [] (by decide) rfl
  have hFc := va_free (wc := []) hD hS hA [] rfl
  refine va_calli (va_runS (As := [.int x1, .int 0, .int ((f_t_s (5 : Int32).toNatClampNeg) - 1)]) (rest := []) ⟨hx, hb, hml, hown, hts⟩ (MX11_in l D cyI cyZ cyC ro ce cin ad    H.size x1 0 ((f_t_s (5 : Int32).toNatClampNeg) - 1) QK  hq) (va_cwS 3 hts gX11_isCard_X11_in rfl rfl rfl dmX11_in ⟨Nat.le_of_ble_eq_true rfl, Nat.le_of_ble_eq_true rfl⟩) ⟨pre_bl, fun U hU hW => ⟨rfl, pre_of hX hS hK hPc hDc hFc hU hW⟩⟩ rfl rfl hl.1 rfl (lv_room (Nat.le_of_ble_eq_true rfl)) dX11_isCard_10 ⟨Nat.zero_le _, Nat.zero_le _⟩) hS (fun q _ h => hFc q h) hFc (fun r1 u t H1 locs ht hvm hw hB hz1 hk1 hS => ?_)
  replace hw : QK r1 := hw
  clear hq
  subst eQ
  obtain ⟨hP1, hD1⟩ := hB
  rw [ht] at hP1
  obtain ⟨hP, hD⟩ := va_join (wr := [(a_t, .inr (10, [w_t_thrown, .ref a_t_s, w_t_image, w_t_hasImage, w_t_act, w_t_spot, w_t_end, w_t_isWrong, w_t_open, w_t_readMany, w_t_readSpan, w_t_readSum, w_t_readOdds, w_t_readBank, w_t_readMill, w_t_readLevel, w_t_levels, w_t_boardsNow, w_t_ways, w_t_nexts, w_t_hourNow, w_t_staying, w_t_leftCard, w_t_leftLine, w_t_isMute, w_t_higher, w_t_over, w_t_dry, w_t_truths, w_t_failHours, w_t_failRow, w_t_keptBoards, w_t_keptHung, w_t_bodies, w_t_ran, w_t_kind, w_t_number, w_t_tellsV])), (a_t_s, .inl (cyI, 1454, .inl f_t_s))]) (w1 := []) hP hD [] [0, 1] rfl rfl (by decide) (by decide) hk1 hFc hP1 hD1
  clear hPc hDc hFc hk1 hz1 hP1 hD1 ht hvm
  generalize H1 = H at hP hS ⊢
  replace hP : va_P D vwCl [(a_t, .inr (10, [w_t_thrown, .ref a_t_s, w_t_image, w_t_hasImage, w_t_act, w_t_spot, w_t_end, w_t_isWrong, w_t_open, w_t_readMany, w_t_readSpan, w_t_readSum, w_t_readOdds, w_t_readBank, w_t_readMill, w_t_readLevel, w_t_levels, w_t_boardsNow, w_t_ways, w_t_nexts, w_t_hourNow, w_t_staying, w_t_leftCard, w_t_leftLine, w_t_isMute, w_t_higher, w_t_over, w_t_dry, w_t_truths, w_t_failHours, w_t_failRow, w_t_keptBoards, w_t_keptHung, w_t_bodies, w_t_ran, w_t_kind, w_t_number, w_t_tellsV])), (a_t_s, .inl (cyI, 1454, .inl f_t_s))] H := hP
  replace hD : va_D A [(a_t, .inr (10, [w_t_thrown, .ref a_t_s, w_t_image, w_t_hasImage, w_t_act, w_t_spot, w_t_end, w_t_isWrong, w_t_open, w_t_readMany, w_t_readSpan, w_t_readSum, w_t_readOdds, w_t_readBank, w_t_readMill, w_t_readLevel, w_t_levels, w_t_boardsNow, w_t_ways, w_t_nexts, w_t_hourNow, w_t_staying, w_t_leftCard, w_t_leftLine, w_t_isMute, w_t_higher, w_t_over, w_t_dry, w_t_truths, w_t_failHours, w_t_failRow, w_t_keptBoards, w_t_keptHung, w_t_bodies, w_t_ran, w_t_kind, w_t_number, w_t_tellsV])), (a_t_s, .inl (cyI, 1454, .inl f_t_s))] := hD
  have hib := hw.1
  replace hw := hw.2
  exact W.zret (v := r1) hx hb hr (isB_nar hib) (fun t ht hW => ⟨⟨r1, (), rfl, hw, post_mk ht hP hD⟩, hS.F ht⟩) hS.2.2 dX11_isCard_13 hlocks
set_option maxHeartbeats 8000000 in
set_option maxRecDepth 100000 in
theorem MX11_isRiver (l : Launch) (D : va_G) (cyI cyZ cyC : ClassId) (ro : va_W) (ce : Nat → CT) (cin : Nat → Prop) (ad : AD) (a_t a_t_s : Nat) (w_t_thrown w_t_image w_t_hasImage w_t_act w_t_spot w_t_end w_t_isWrong w_t_open w_t_readMany w_t_readSpan w_t_readSum w_t_readOdds w_t_readBank w_t_readMill w_t_readLevel w_t_levels w_t_boardsNow w_t_ways w_t_nexts w_t_hourNow w_t_staying w_t_leftCard w_t_leftLine w_t_isMute w_t_higher w_t_over w_t_dry w_t_truths w_t_failHours w_t_failRow w_t_keptBoards w_t_keptHung w_t_bodies w_t_ran w_t_kind w_t_number w_t_tellsV : Value) (sz : Nat) (f_t_s : Nat → Int32) (Q : Int32 → Prop)  (hw : WX11_isRiver f_t_s Q) : Met l yX11_isRiver wsX11_isRiver ({ frames := 0, cells := 0, slots := 0, locals := 0 }) (va_Pc [.ref a_t] (PRE D cyI cyZ cyC ro ce cin ad (SX11_isRiver cyI cyZ cyC a_t a_t_s w_t_thrown w_t_image w_t_hasImage w_t_act w_t_spot w_t_end w_t_isWrong w_t_open w_t_readMany w_t_readSpan w_t_readSum w_t_readOdds w_t_readBank w_t_readMill w_t_readLevel w_t_levels w_t_boardsNow w_t_ways w_t_nexts w_t_hourNow w_t_staying w_t_leftCard w_t_leftLine w_t_isMute w_t_higher w_t_over w_t_dry w_t_truths w_t_failHours w_t_failRow w_t_keptBoards w_t_keptHung w_t_bodies w_t_ran w_t_kind w_t_number w_t_tellsV  f_t_s) sz)) (va_Qi (fun (r : Int32) (_ : Unit) => Q r) (fun (_ : Unit) (t : State) => POST D (va_A (SX11_isRiver cyI cyZ cyC a_t a_t_s w_t_thrown w_t_image w_t_hasImage w_t_act w_t_spot w_t_end w_t_isWrong w_t_open w_t_readMany w_t_readSpan w_t_readSum w_t_readOdds w_t_readBank w_t_readMill w_t_readLevel w_t_levels w_t_boardsNow w_t_ways w_t_nexts w_t_hourNow w_t_staying w_t_leftCard w_t_leftLine w_t_isMute w_t_higher w_t_over w_t_dry w_t_truths w_t_failHours w_t_failRow w_t_keptBoards w_t_keptHung w_t_bodies w_t_ran w_t_kind w_t_number w_t_tellsV  f_t_s) sz) (SX11_isRiver cyI cyZ cyC a_t a_t_s w_t_thrown w_t_image w_t_hasImage w_t_act w_t_spot w_t_end w_t_isWrong w_t_open w_t_readMany w_t_readSpan w_t_readSum w_t_readOdds w_t_readBank w_t_readMill w_t_readLevel w_t_levels w_t_boardsNow w_t_ways w_t_nexts w_t_hourNow w_t_staying w_t_leftCard w_t_leftLine w_t_isMute w_t_higher w_t_over w_t_dry w_t_truths w_t_failHours w_t_failRow w_t_keptBoards w_t_keptHung w_t_bodies w_t_ran w_t_kind w_t_number w_t_tellsV  f_t_s) t) (va_A (SX11_isRiver cyI cyZ cyC a_t a_t_s w_t_thrown w_t_image w_t_hasImage w_t_act w_t_spot w_t_end w_t_isWrong w_t_open w_t_readMany w_t_readSpan w_t_readSum w_t_readOdds w_t_readBank w_t_readMill w_t_readLevel w_t_levels w_t_boardsNow w_t_ways w_t_nexts w_t_hourNow w_t_staying w_t_leftCard w_t_leftLine w_t_isMute w_t_higher w_t_over w_t_dry w_t_truths w_t_failHours w_t_failRow w_t_keptBoards w_t_keptHung w_t_bodies w_t_ran w_t_kind w_t_number w_t_tellsV  f_t_s) sz)) 0 0 (va_A (SX11_isRiver cyI cyZ cyC a_t a_t_s w_t_thrown w_t_image w_t_hasImage w_t_act w_t_spot w_t_end w_t_isWrong w_t_open w_t_readMany w_t_readSpan w_t_readSum w_t_readOdds w_t_readBank w_t_readMill w_t_readLevel w_t_levels w_t_boardsNow w_t_ways w_t_nexts w_t_hourNow w_t_staying w_t_leftCard w_t_leftLine w_t_isMute w_t_higher w_t_over w_t_dry w_t_truths w_t_failHours w_t_failRow w_t_keptBoards w_t_keptHung w_t_bodies w_t_ran w_t_kind w_t_number w_t_tellsV  f_t_s) sz) := by
  refine Met.ofW (cc := cX11_isRiver) (maxL := 1) (ret := (some .boolean)) (by decide +kernel) rfl ?_
  intro p e s m args below meth c s₁ B hml hv
  obtain ⟨rfl, hsz, hP, hK, hD0, hX⟩ := hv
  have hx := B.exec
  have hb := B.bytes
  have hr := B.returns
  have hts := atoms_spec (ws := wsX11_isRiver) B.pre
  have hown : s.vm.findClass RX11 = some m.cls := findClass_of_methodNamed B.named
  have hlocks := B.notSynchronized
  clear B
  subst hsz
  have hD := hD0.self (sz := s.heap.size)
  clear hD0
  generalize hAe : va_A (SX11_isRiver cyI cyZ cyC a_t a_t_s w_t_thrown w_t_image w_t_hasImage w_t_act w_t_spot w_t_end w_t_isWrong w_t_open w_t_readMany w_t_readSpan w_t_readSum w_t_readOdds w_t_readBank w_t_readMill w_t_readLevel w_t_levels w_t_boardsNow w_t_ways w_t_nexts w_t_hourNow w_t_staying w_t_leftCard w_t_leftLine w_t_isMute w_t_higher w_t_over w_t_dry w_t_truths w_t_failHours w_t_failRow w_t_keptBoards w_t_keptHung w_t_bodies w_t_ran w_t_kind w_t_number w_t_tellsV  f_t_s) s.heap.size = A at hD hX ⊢
  have hA : ∀ q : Nat, s.heap.size ≤ q → A q := fun q h => by rw [← hAe]; exact Or.inr h
  clear hAe
  obtain ⟨H, hH⟩ : ∃ H, H = s.heap := ⟨_, rfl⟩
  rw [← hH] at hP ⊢
  have hS : va_S A s.heap H [] := by rw [hH]; exact va_S.rf
  clear hH
  replace hP : va_P D vwCl [(a_t, .inr (10, [w_t_thrown, .ref a_t_s, w_t_image, w_t_hasImage, w_t_act, w_t_spot, w_t_end, w_t_isWrong, w_t_open, w_t_readMany, w_t_readSpan, w_t_readSum, w_t_readOdds, w_t_readBank, w_t_readMill, w_t_readLevel, w_t_levels, w_t_boardsNow, w_t_ways, w_t_nexts, w_t_hourNow, w_t_staying, w_t_leftCard, w_t_leftLine, w_t_isMute, w_t_higher, w_t_over, w_t_dry, w_t_truths, w_t_failHours, w_t_failRow, w_t_keptBoards, w_t_keptHung, w_t_bodies, w_t_ran, w_t_kind, w_t_number, w_t_tellsV])), (a_t_s, .inl (cyI, 1454, .inl f_t_s))] H := hP
  replace hD : va_D A [(a_t, .inr (10, [w_t_thrown, .ref a_t_s, w_t_image, w_t_hasImage, w_t_act, w_t_spot, w_t_end, w_t_isWrong, w_t_open, w_t_readMany, w_t_readSpan, w_t_readSum, w_t_readOdds, w_t_readBank, w_t_readMill, w_t_readLevel, w_t_levels, w_t_boardsNow, w_t_ways, w_t_nexts, w_t_hourNow, w_t_staying, w_t_leftCard, w_t_leftLine, w_t_isMute, w_t_higher, w_t_over, w_t_dry, w_t_truths, w_t_failHours, w_t_failRow, w_t_keptBoards, w_t_keptHung, w_t_bodies, w_t_ran, w_t_kind, w_t_number, w_t_tellsV])), (a_t_s, .inl (cyI, 1454, .inl f_t_s))] := hD
  have hl := lv_entry ([.ref a_t]) (n := 1) (Nat.le_of_ble_eq_true rfl)
  rw [lg_entry_eq]
  generalize (lg_sl ([.ref a_t]) ++ List.replicate (1 - (lg_sl ([.ref a_t])).length) Slot.unset).toArray = ls at hl ⊢
  replace hl : lv_has ls 1 [(0, .ref a_t)] := hl
  unfold WX11_isRiver at hw
  refine lv_aload_n hx hb dX11_isRiver_0 rfl (lv_at hl 0 rfl) ?_
  refine va_get (D := D) (ci := 10) (v := .ref a_t_s) (C := RX11) (T := TX11) (N := 38) hx hb hts inX11_isRiver_X11 hown hK hP 0 rfl rfl 1 (by decide) (hts _ (List.mem_of_getElem? (i := 1) rfl)) (fun _ h9 => h9) rfl dX11_isRiver_1 ?_
  refine lv_iconst (v := 0) hx hb dX11_isRiver_4 (by decide) ?_
  refine va_iald hx hb hK hP 1 0 rfl rfl (vpc rfl) dX11_isRiver_5 ?_
  refine lv_if_le (tgt := 13) hx hb dX11_isRiver_6 (by decide) (fun c1 => ?_) (fun c1 => ?_)
  · replace hw := hw.1 c1
    refine lv_iconst (v := 0) hx hb dX11_isRiver_13 (by decide) ?_
    exact W.zret (v := 0) hx hb hr rfl (fun t ht hW => ⟨⟨0, (), rfl, hw, post_mk ht hP hD⟩, hS.F ht⟩) hS.2.2 dX11_isRiver_14 hlocks
  · replace hw := hw.2 c1
    refine lv_iconst (v := 1) hx hb dX11_isRiver_9 (by decide) ?_
    refine lv_goto (tgt := 14) hx hb dX11_isRiver_10 (by decide) ?_
    exact W.zret (v := 1) hx hb hr rfl (fun t ht hW => ⟨⟨1, (), rfl, hw, post_mk ht hP hD⟩, hS.F ht⟩) hS.2.2 dX11_isRiver_14 hlocks
set_option maxHeartbeats 8000000 in
set_option maxRecDepth 100000 in
theorem MX11_feed (l : Launch) (D : va_G) (cyI cyZ cyC : ClassId) (ro : va_W) (ce : Nat → CT) (cin : Nat → Prop) (ad : AD) (a_t a_t_s : Nat) (w_t_thrown w_t_image w_t_hasImage w_t_act w_t_spot w_t_end w_t_isWrong w_t_open w_t_readMany w_t_readSpan w_t_readSum w_t_readOdds w_t_readBank w_t_readMill w_t_readLevel w_t_levels w_t_boardsNow w_t_ways w_t_nexts w_t_hourNow w_t_staying w_t_leftCard w_t_leftLine w_t_isMute w_t_higher w_t_over w_t_dry w_t_truths w_t_failHours w_t_failRow w_t_keptBoards w_t_keptHung w_t_bodies w_t_ran w_t_kind w_t_number w_t_tellsV : Value) (sz : Nat) (x1 : Int64) (x3 : Int32) (f_t_s : Nat → Int32) (Q : Int32 → (Nat → Int32) → Prop)  (hw : WX11_feed x1 x3 f_t_s Q) : Met l yX11_feed wsX11_feed ({ frames := 1, cells := 0, slots := 0, locals := 22 }) (va_Pc [.ref a_t, .long x1, .int x3] (PRE D cyI cyZ cyC ro ce cin ad (SX11_feed cyI cyZ cyC a_t a_t_s w_t_thrown w_t_image w_t_hasImage w_t_act w_t_spot w_t_end w_t_isWrong w_t_open w_t_readMany w_t_readSpan w_t_readSum w_t_readOdds w_t_readBank w_t_readMill w_t_readLevel w_t_levels w_t_boardsNow w_t_ways w_t_nexts w_t_hourNow w_t_staying w_t_leftCard w_t_leftLine w_t_isMute w_t_higher w_t_over w_t_dry w_t_truths w_t_failHours w_t_failRow w_t_keptBoards w_t_keptHung w_t_bodies w_t_ran w_t_kind w_t_number w_t_tellsV  f_t_s) sz)) (va_Qi (fun (r : Int32) (u : (Nat → Int32)) => Q r u) (fun (u : (Nat → Int32)) (t : State) => POST D (va_A (SX11_feed cyI cyZ cyC a_t a_t_s w_t_thrown w_t_image w_t_hasImage w_t_act w_t_spot w_t_end w_t_isWrong w_t_open w_t_readMany w_t_readSpan w_t_readSum w_t_readOdds w_t_readBank w_t_readMill w_t_readLevel w_t_levels w_t_boardsNow w_t_ways w_t_nexts w_t_hourNow w_t_staying w_t_leftCard w_t_leftLine w_t_isMute w_t_higher w_t_over w_t_dry w_t_truths w_t_failHours w_t_failRow w_t_keptBoards w_t_keptHung w_t_bodies w_t_ran w_t_kind w_t_number w_t_tellsV  f_t_s) sz) (SX11_feed cyI cyZ cyC a_t a_t_s w_t_thrown w_t_image w_t_hasImage w_t_act w_t_spot w_t_end w_t_isWrong w_t_open w_t_readMany w_t_readSpan w_t_readSum w_t_readOdds w_t_readBank w_t_readMill w_t_readLevel w_t_levels w_t_boardsNow w_t_ways w_t_nexts w_t_hourNow w_t_staying w_t_leftCard w_t_leftLine w_t_isMute w_t_higher w_t_over w_t_dry w_t_truths w_t_failHours w_t_failRow w_t_keptBoards w_t_keptHung w_t_bodies w_t_ran w_t_kind w_t_number w_t_tellsV  u) t) (va_A (SX11_feed cyI cyZ cyC a_t a_t_s w_t_thrown w_t_image w_t_hasImage w_t_act w_t_spot w_t_end w_t_isWrong w_t_open w_t_readMany w_t_readSpan w_t_readSum w_t_readOdds w_t_readBank w_t_readMill w_t_readLevel w_t_levels w_t_boardsNow w_t_ways w_t_nexts w_t_hourNow w_t_staying w_t_leftCard w_t_leftLine w_t_isMute w_t_higher w_t_over w_t_dry w_t_truths w_t_failHours w_t_failRow w_t_keptBoards w_t_keptHung w_t_bodies w_t_ran w_t_kind w_t_number w_t_tellsV  f_t_s) sz)) 0 0 (va_A (SX11_feed cyI cyZ cyC a_t a_t_s w_t_thrown w_t_image w_t_hasImage w_t_act w_t_spot w_t_end w_t_isWrong w_t_open w_t_readMany w_t_readSpan w_t_readSum w_t_readOdds w_t_readBank w_t_readMill w_t_readLevel w_t_levels w_t_boardsNow w_t_ways w_t_nexts w_t_hourNow w_t_staying w_t_leftCard w_t_leftLine w_t_isMute w_t_higher w_t_over w_t_dry w_t_truths w_t_failHours w_t_failRow w_t_keptBoards w_t_keptHung w_t_bodies w_t_ran w_t_kind w_t_number w_t_tellsV  f_t_s) sz) := by
  refine Met.ofW (cc := cX11_feed) (maxL := 5) (ret := (some .int)) (by decide +kernel) rfl ?_
  intro p e s m args below meth c s₁ B hml hv
  obtain ⟨rfl, hsz, hP, hK, hD0, hX⟩ := hv
  have hx := B.exec
  have hb := B.bytes
  have hr := B.returns
  have hts := atoms_spec (ws := wsX11_feed) B.pre
  have hown : s.vm.findClass RX11 = some m.cls := findClass_of_methodNamed B.named
  have hlocks := B.notSynchronized
  clear B
  subst hsz
  have hD := hD0.self (sz := s.heap.size)
  clear hD0
  generalize hAe : va_A (SX11_feed cyI cyZ cyC a_t a_t_s w_t_thrown w_t_image w_t_hasImage w_t_act w_t_spot w_t_end w_t_isWrong w_t_open w_t_readMany w_t_readSpan w_t_readSum w_t_readOdds w_t_readBank w_t_readMill w_t_readLevel w_t_levels w_t_boardsNow w_t_ways w_t_nexts w_t_hourNow w_t_staying w_t_leftCard w_t_leftLine w_t_isMute w_t_higher w_t_over w_t_dry w_t_truths w_t_failHours w_t_failRow w_t_keptBoards w_t_keptHung w_t_bodies w_t_ran w_t_kind w_t_number w_t_tellsV  f_t_s) s.heap.size = A at hD hX ⊢
  have hA : ∀ q : Nat, s.heap.size ≤ q → A q := fun q h => by rw [← hAe]; exact Or.inr h
  clear hAe
  obtain ⟨H, hH⟩ : ∃ H, H = s.heap := ⟨_, rfl⟩
  rw [← hH] at hP ⊢
  have hS : va_S A s.heap H [] := by rw [hH]; exact va_S.rf
  clear hH
  replace hP : va_P D vwCl [(a_t, .inr (10, [w_t_thrown, .ref a_t_s, w_t_image, w_t_hasImage, w_t_act, w_t_spot, w_t_end, w_t_isWrong, w_t_open, w_t_readMany, w_t_readSpan, w_t_readSum, w_t_readOdds, w_t_readBank, w_t_readMill, w_t_readLevel, w_t_levels, w_t_boardsNow, w_t_ways, w_t_nexts, w_t_hourNow, w_t_staying, w_t_leftCard, w_t_leftLine, w_t_isMute, w_t_higher, w_t_over, w_t_dry, w_t_truths, w_t_failHours, w_t_failRow, w_t_keptBoards, w_t_keptHung, w_t_bodies, w_t_ran, w_t_kind, w_t_number, w_t_tellsV])), (a_t_s, .inl (cyI, 1454, .inl f_t_s))] H := hP
  replace hD : va_D A [(a_t, .inr (10, [w_t_thrown, .ref a_t_s, w_t_image, w_t_hasImage, w_t_act, w_t_spot, w_t_end, w_t_isWrong, w_t_open, w_t_readMany, w_t_readSpan, w_t_readSum, w_t_readOdds, w_t_readBank, w_t_readMill, w_t_readLevel, w_t_levels, w_t_boardsNow, w_t_ways, w_t_nexts, w_t_hourNow, w_t_staying, w_t_leftCard, w_t_leftLine, w_t_isMute, w_t_higher, w_t_over, w_t_dry, w_t_truths, w_t_failHours, w_t_failRow, w_t_keptBoards, w_t_keptHung, w_t_bodies, w_t_ran, w_t_kind, w_t_number, w_t_tellsV])), (a_t_s, .inl (cyI, 1454, .inl f_t_s))] := hD
  have hl := lv_entry ([.ref a_t, .long x1, .int x3]) (n := 5) (Nat.le_of_ble_eq_true rfl)
  rw [lg_entry_eq]
  generalize (lg_sl ([.ref a_t, .long x1, .int x3]) ++ List.replicate (5 - (lg_sl ([.ref a_t, .long x1, .int x3])).length) Slot.unset).toArray = ls at hl ⊢
  replace hl : lv_has ls 5 [(0, .ref a_t), (1, .long x1), (3, .int x3)] := hl
  have B35 : ∀ (n35 : Nat), ∀ (x4 : Int32) (f_t_s : Nat → Int32), WX11_feed_35 x1 Q  n35 x4 f_t_s → ∀ (H : Heap) (locs : List Loc), va_P D vwCl [(a_t, .inr (10, [w_t_thrown, .ref a_t_s, w_t_image, w_t_hasImage, w_t_act, w_t_spot, w_t_end, w_t_isWrong, w_t_open, w_t_readMany, w_t_readSpan, w_t_readSum, w_t_readOdds, w_t_readBank, w_t_readMill, w_t_readLevel, w_t_levels, w_t_boardsNow, w_t_ways, w_t_nexts, w_t_hourNow, w_t_staying, w_t_leftCard, w_t_leftLine, w_t_isMute, w_t_higher, w_t_over, w_t_dry, w_t_truths, w_t_failHours, w_t_failRow, w_t_keptBoards, w_t_keptHung, w_t_bodies, w_t_ran, w_t_kind, w_t_number, w_t_tellsV])), (a_t_s, .inl (cyI, 1454, .inl f_t_s))] H → va_D A [(a_t, .inr (10, [w_t_thrown, .ref a_t_s, w_t_image, w_t_hasImage, w_t_act, w_t_spot, w_t_end, w_t_isWrong, w_t_open, w_t_readMany, w_t_readSpan, w_t_readSum, w_t_readOdds, w_t_readBank, w_t_readMill, w_t_readLevel, w_t_levels, w_t_boardsNow, w_t_ways, w_t_nexts, w_t_hourNow, w_t_staying, w_t_leftCard, w_t_leftLine, w_t_isMute, w_t_higher, w_t_over, w_t_dry, w_t_truths, w_t_failHours, w_t_failRow, w_t_keptBoards, w_t_keptHung, w_t_bodies, w_t_ran, w_t_kind, w_t_number, w_t_tellsV])), (a_t_s, .inl (cyI, 1454, .inl f_t_s))] → va_S A s.heap H locs → ∀ (ls : Array Slot), lv_has ls 5 [(0, .ref a_t), (1, .long x1), (4, .int x4)] → W p l e { frames := 1, cells := 0, slots := 0, locals := 22 } s m ([.ref a_t, .long x1, .int x3] : List Value).toArray below meth c H locs 0 0 (MQ below (va_Qi (fun (r : Int32) (u : (Nat → Int32)) => Q r u) (fun (u : (Nat → Int32)) (t : State) => POST D A (SX11_feed cyI cyZ cyC a_t a_t_s w_t_thrown w_t_image w_t_hasImage w_t_act w_t_spot w_t_end w_t_isWrong w_t_open w_t_readMany w_t_readSpan w_t_readSum w_t_readOdds w_t_readBank w_t_readMill w_t_readLevel w_t_levels w_t_boardsNow w_t_ways w_t_nexts w_t_hourNow w_t_staying w_t_leftCard w_t_leftLine w_t_isMute w_t_higher w_t_over w_t_dry w_t_truths w_t_failHours w_t_failRow w_t_keptBoards w_t_keptHung w_t_bodies w_t_ran w_t_kind w_t_number w_t_tellsV  u) t) A) ([.ref a_t, .long x1, .int x3] : List Value).toArray s 0 0 A) (F0 m 35 ls []) := by
    intro n35
    induction n35 with
    | zero => intro x4 f_t_s hw; exact (show False from hw).elim
    | succ n35 ih35 =>
      intro x4 f_t_s hw H locs hP hD hS ls hl
      unfold WX11_feed_35 at hw
      refine lv_iload hx hb dX11_feed_35 (lv_at hl 2 rfl) ?_
      refine lv_if_lt (tgt := 84) hx hb dX11_feed_37 (by decide) (fun c5 => ?_) (fun c5 => ?_)
      · replace hw := hw.1 c5
        refine lv_aload_n hx hb dX11_feed_84 rfl (lv_at hl 0 rfl) ?_
        refine va_get (D := D) (ci := 10) (v := .ref a_t_s) (C := RX11) (T := TX11) (N := 38) hx hb hts inX11_feed_X11 hown hK hP 0 rfl rfl 1 (by decide) (hts _ (List.mem_of_getElem? (i := 1) rfl)) (fun _ h9 => h9) rfl dX11_feed_85 ?_
        refine lv_bipush (v := 7) hx hb dX11_feed_88 (by decide) ?_
        refine va_iald hx hb hK hP 1 0 rfl rfl (vpc rfl) dX11_feed_90 ?_
        exact W.iret (v := f_t_s (7 : Int32).toNatClampNeg) hx hb hr (fun t ht hW => ⟨⟨f_t_s (7 : Int32).toNatClampNeg, f_t_s, rfl, hw, post_mk ht hP hD⟩, hS.F ht⟩) hS.2.2 dX11_feed_91 hlocks
      · replace hw := hw.2 c5
        refine lv_aload_n hx hb dX11_feed_40 rfl (lv_at hl 0 rfl) ?_
        refine va_get (D := D) (ci := 10) (v := .ref a_t_s) (C := RX11) (T := TX11) (N := 38) hx hb hts inX11_feed_X11 hown hK hP 0 rfl rfl 1 (by decide) (hts _ (List.mem_of_getElem? (i := 1) rfl)) (fun _ h9 => h9) rfl dX11_feed_41 ?_
        refine lv_bipush (v := 10) hx hb dX11_feed_44 (by decide) ?_
        refine lv_aload_n hx hb dX11_feed_46 rfl (lv_at hl 0 rfl) ?_
        refine va_get (D := D) (ci := 10) (v := .ref a_t_s) (C := RX11) (T := TX11) (N := 38) hx hb hts inX11_feed_X11 hown hK hP 0 rfl rfl 1 (by decide) (hts _ (List.mem_of_getElem? (i := 1) rfl)) (fun _ h9 => h9) rfl dX11_feed_47 ?_
        refine lv_bipush (v := 7) hx hb dX11_feed_50 (by decide) ?_
        refine va_iald hx hb hK hP 1 0 rfl rfl (vpc rfl) dX11_feed_52 ?_
        refine lv_iadd hx hb dX11_feed_53 ?_
        refine lv_lload_n hx hb dX11_feed_54 rfl (lv_at hl 1 rfl) ?_
        refine lv_bipush (v := 8) hx hb dX11_feed_55 (by decide) ?_
        refine lv_iload hx hb dX11_feed_57 (lv_at hl 2 rfl) ?_
        refine lv_imul hx hb dX11_feed_59 ?_
        refine lv_lshr (v := x1 >>> ((8 * x4).toInt64 &&& 63)) hx hb dX11_feed_60 rfl ?_
        refine lv_ldc2 (v := 255) hx hb hown (hts _ (List.mem_of_getElem? (i := 2) rfl)) dX11_feed_61 ?_
        refine lv_land hx hb dX11_feed_64 ?_
        refine lv_l2i (v := ((x1 >>> ((8 * x4).toInt64 &&& 63)) &&& 255).toInt32) hx hb dX11_feed_65 rfl ?_
        refine lv_topi (fun y6 ey6 => ?_)
        replace hw := hw y6 ey6
        have h7 := hw.1
        replace hw := hw.2
        refine va_iast hx hb hK hP hD hS 1 0 rfl rfl h7 dX11_feed_66 (fun H locs hP hD hS => ?_)
        replace hP : va_P D vwCl [(a_t, .inr (10, [w_t_thrown, .ref a_t_s, w_t_image, w_t_hasImage, w_t_act, w_t_spot, w_t_end, w_t_isWrong, w_t_open, w_t_readMany, w_t_readSpan, w_t_readSum, w_t_readOdds, w_t_readBank, w_t_readMill, w_t_readLevel, w_t_levels, w_t_boardsNow, w_t_ways, w_t_nexts, w_t_hourNow, w_t_staying, w_t_leftCard, w_t_leftLine, w_t_isMute, w_t_higher, w_t_over, w_t_dry, w_t_truths, w_t_failHours, w_t_failRow, w_t_keptBoards, w_t_keptHung, w_t_bodies, w_t_ran, w_t_kind, w_t_number, w_t_tellsV])), (a_t_s, .inl (cyI, 1454, .inl (upd f_t_s (10 + (f_t_s (7 : Int32).toNatClampNeg)).toNatClampNeg y6)))] H := hP
        replace hD : va_D A [(a_t, .inr (10, [w_t_thrown, .ref a_t_s, w_t_image, w_t_hasImage, w_t_act, w_t_spot, w_t_end, w_t_isWrong, w_t_open, w_t_readMany, w_t_readSpan, w_t_readSum, w_t_readOdds, w_t_readBank, w_t_readMill, w_t_readLevel, w_t_levels, w_t_boardsNow, w_t_ways, w_t_nexts, w_t_hourNow, w_t_staying, w_t_leftCard, w_t_leftLine, w_t_isMute, w_t_higher, w_t_over, w_t_dry, w_t_truths, w_t_failHours, w_t_failRow, w_t_keptBoards, w_t_keptHung, w_t_bodies, w_t_ran, w_t_kind, w_t_number, w_t_tellsV])), (a_t_s, .inl (cyI, 1454, .inl (upd f_t_s (10 + (f_t_s (7 : Int32).toNatClampNeg)).toNatClampNeg y6)))] := hD
        refine lv_aload_n hx hb dX11_feed_67 rfl (lv_at hl 0 rfl) ?_
        refine va_get (D := D) (ci := 10) (v := .ref a_t_s) (C := RX11) (T := TX11) (N := 38) hx hb hts inX11_feed_X11 hown hK hP 0 rfl rfl 1 (by decide) (hts _ (List.mem_of_getElem? (i := 1) rfl)) (fun _ h9 => h9) rfl dX11_feed_68 ?_
        refine lv_bipush (v := 7) hx hb dX11_feed_71 (by decide) ?_
        refine lv_dup2_11 hx hb dX11_feed_73 rfl rfl ?_
        refine va_iald hx hb hK hP 1 0 rfl rfl (vpc rfl) dX11_feed_74 ?_
        refine lv_iconst (v := 1) hx hb dX11_feed_75 (by decide) ?_
        refine lv_iadd hx hb dX11_feed_76 ?_
        refine lv_topi (fun y8 ey8 => ?_)
        replace hw := hw y8 ey8
        refine va_iast hx hb hK hP hD hS 1 0 rfl rfl (vpc rfl) dX11_feed_77 (fun H locs hP hD hS => ?_)
        replace hP : va_P D vwCl [(a_t, .inr (10, [w_t_thrown, .ref a_t_s, w_t_image, w_t_hasImage, w_t_act, w_t_spot, w_t_end, w_t_isWrong, w_t_open, w_t_readMany, w_t_readSpan, w_t_readSum, w_t_readOdds, w_t_readBank, w_t_readMill, w_t_readLevel, w_t_levels, w_t_boardsNow, w_t_ways, w_t_nexts, w_t_hourNow, w_t_staying, w_t_leftCard, w_t_leftLine, w_t_isMute, w_t_higher, w_t_over, w_t_dry, w_t_truths, w_t_failHours, w_t_failRow, w_t_keptBoards, w_t_keptHung, w_t_bodies, w_t_ran, w_t_kind, w_t_number, w_t_tellsV])), (a_t_s, .inl (cyI, 1454, .inl (upd (upd f_t_s (10 + (f_t_s (7 : Int32).toNatClampNeg)).toNatClampNeg y6) (7 : Int32).toNatClampNeg y8)))] H := hP
        replace hD : va_D A [(a_t, .inr (10, [w_t_thrown, .ref a_t_s, w_t_image, w_t_hasImage, w_t_act, w_t_spot, w_t_end, w_t_isWrong, w_t_open, w_t_readMany, w_t_readSpan, w_t_readSum, w_t_readOdds, w_t_readBank, w_t_readMill, w_t_readLevel, w_t_levels, w_t_boardsNow, w_t_ways, w_t_nexts, w_t_hourNow, w_t_staying, w_t_leftCard, w_t_leftLine, w_t_isMute, w_t_higher, w_t_over, w_t_dry, w_t_truths, w_t_failHours, w_t_failRow, w_t_keptBoards, w_t_keptHung, w_t_bodies, w_t_ran, w_t_kind, w_t_number, w_t_tellsV])), (a_t_s, .inl (cyI, 1454, .inl (upd (upd f_t_s (10 + (f_t_s (7 : Int32).toNatClampNeg)).toNatClampNeg y6) (7 : Int32).toNatClampNeg y8)))] := hD
        obtain ⟨y9, ey9⟩ : ∃ y : Int32, y = x4 + (-1) := ⟨_, rfl⟩
        replace hw := hw y9 ey9
        refine lv_iinc (v := y9) (lv' := [(4, .int y9), (0, .ref a_t), (1, .long x1)]) hx hb dX11_feed_78 hl (k := 2) rfl (by rw [ey9]; rfl) (by decide) rfl (fun ls hl => ?_)
        refine lv_goto (tgt := 35) hx hb dX11_feed_81 (by decide) ?_
        exact ih35 y9 (upd (upd f_t_s (10 + (f_t_s (7 : Int32).toNatClampNeg)).toNatClampNeg y6) (7 : Int32).toNatClampNeg y8) hw _ _ hP hD hS _ (lv_sub hl [1, 2, 0] rfl)
  unfold WX11_feed at hw
  refine lv_iload_n hx hb dX11_feed_0 rfl (lv_at hl 2 rfl) ?_
  refine lv_iconst (v := 1) hx hb dX11_feed_1 (by decide) ?_
  refine lv_bipush (v := 8) hx hb dX11_feed_2 (by decide) ?_
  obtain ⟨QK, eQ, hq⟩ := genq (P := WX11_in x3 1 8) hw
  clear hw
  have hPc := hP.sub (ws' := []) [] rfl
  have hDc := hD.sub (ws' := []) [] (by decide) rfl
  have hFc := va_free (wc := []) hD hS hA [] rfl
  refine va_calli (va_runS (As := [.int x3, .int 1, .int 8]) (rest := []) ⟨hx, hb, hml, hown, hts⟩ (MX11_in l D cyI cyZ cyC ro ce cin ad    H.size x3 1 8 QK  hq) (va_cwS 3 hts gX11_feed_X11_in rfl rfl rfl dmX11_in ⟨Nat.le_of_ble_eq_true rfl, Nat.le_of_ble_eq_true rfl⟩) ⟨pre_bl, fun U hU hW => ⟨rfl, pre_of hX hS hK hPc hDc hFc hU hW⟩⟩ rfl rfl hl.1 rfl (lv_room (Nat.le_of_ble_eq_true rfl)) dX11_feed_4 ⟨Nat.zero_le _, Nat.zero_le _⟩) hS (fun q _ h => hFc q h) hFc (fun r1 u t H1 locs ht hvm hw hB hz1 hk1 hS => ?_)
  replace hw : QK r1 := hw
  clear hq
  subst eQ
  obtain ⟨hP1, hD1⟩ := hB
  rw [ht] at hP1
  obtain ⟨hP, hD⟩ := va_join (wr := [(a_t, .inr (10, [w_t_thrown, .ref a_t_s, w_t_image, w_t_hasImage, w_t_act, w_t_spot, w_t_end, w_t_isWrong, w_t_open, w_t_readMany, w_t_readSpan, w_t_readSum, w_t_readOdds, w_t_readBank, w_t_readMill, w_t_readLevel, w_t_levels, w_t_boardsNow, w_t_ways, w_t_nexts, w_t_hourNow, w_t_staying, w_t_leftCard, w_t_leftLine, w_t_isMute, w_t_higher, w_t_over, w_t_dry, w_t_truths, w_t_failHours, w_t_failRow, w_t_keptBoards, w_t_keptHung, w_t_bodies, w_t_ran, w_t_kind, w_t_number, w_t_tellsV])), (a_t_s, .inl (cyI, 1454, .inl f_t_s))]) (w1 := []) hP hD [] [0, 1] rfl rfl (by decide) (by decide) hk1 hFc hP1 hD1
  clear hPc hDc hFc hk1 hz1 hP1 hD1 ht hvm
  generalize H1 = H at hP hS ⊢
  replace hP : va_P D vwCl [(a_t, .inr (10, [w_t_thrown, .ref a_t_s, w_t_image, w_t_hasImage, w_t_act, w_t_spot, w_t_end, w_t_isWrong, w_t_open, w_t_readMany, w_t_readSpan, w_t_readSum, w_t_readOdds, w_t_readBank, w_t_readMill, w_t_readLevel, w_t_levels, w_t_boardsNow, w_t_ways, w_t_nexts, w_t_hourNow, w_t_staying, w_t_leftCard, w_t_leftLine, w_t_isMute, w_t_higher, w_t_over, w_t_dry, w_t_truths, w_t_failHours, w_t_failRow, w_t_keptBoards, w_t_keptHung, w_t_bodies, w_t_ran, w_t_kind, w_t_number, w_t_tellsV])), (a_t_s, .inl (cyI, 1454, .inl f_t_s))] H := hP
  replace hD : va_D A [(a_t, .inr (10, [w_t_thrown, .ref a_t_s, w_t_image, w_t_hasImage, w_t_act, w_t_spot, w_t_end, w_t_isWrong, w_t_open, w_t_readMany, w_t_readSpan, w_t_readSum, w_t_readOdds, w_t_readBank, w_t_readMill, w_t_readLevel, w_t_levels, w_t_boardsNow, w_t_ways, w_t_nexts, w_t_hourNow, w_t_staying, w_t_leftCard, w_t_leftLine, w_t_isMute, w_t_higher, w_t_over, w_t_dry, w_t_truths, w_t_failHours, w_t_failRow, w_t_keptBoards, w_t_keptHung, w_t_bodies, w_t_ran, w_t_kind, w_t_number, w_t_tellsV])), (a_t_s, .inl (cyI, 1454, .inl f_t_s))] := hD
  refine lv_if_ne (tgt := 13) hx hb dX11_feed_7 (by decide) (fun c2 => ?_) (fun c2 => ?_)
  · replace hw := hw.2 c2
    refine lv_aload_n hx hb dX11_feed_13 rfl (lv_at hl 0 rfl) ?_
    refine va_get (D := D) (ci := 10) (v := .ref a_t_s) (C := RX11) (T := TX11) (N := 38) hx hb hts inX11_feed_X11 hown hK hP 0 rfl rfl 1 (by decide) (hts _ (List.mem_of_getElem? (i := 1) rfl)) (fun _ h9 => h9) rfl dX11_feed_14 ?_
    refine lv_bipush (v := 7) hx hb dX11_feed_17 (by decide) ?_
    refine va_iald hx hb hK hP 1 0 rfl rfl (vpc rfl) dX11_feed_19 ?_
    refine lv_iload_n hx hb dX11_feed_20 rfl (lv_at hl 2 rfl) ?_
    refine lv_iadd hx hb dX11_feed_21 ?_
    refine lv_bipush (v := 120) hx hb dX11_feed_22 (by decide) ?_
    refine lv_icmp_le (tgt := 30) hx hb dX11_feed_24 (by decide) (fun c3 => ?_) (fun c3 => ?_)
    · replace hw := hw.1 c3
      refine lv_iload_n hx hb dX11_feed_30 rfl (lv_at hl 2 rfl) ?_
      refine lv_iconst (v := 1) hx hb dX11_feed_31 (by decide) ?_
      refine lv_isub hx hb dX11_feed_32 ?_
      refine lv_topi (fun y4 ey4 => ?_)
      replace hw := hw y4 ey4
      refine lv_istore (lv' := [(4, .int y4), (0, .ref a_t), (1, .long x1), (3, .int x3)]) hx hb dX11_feed_33 hl (by decide) rfl (fun ls hl => ?_)
      obtain ⟨nn, hw⟩ := hw
      exact B35 nn y4 f_t_s hw _ _ hP hD hS _ (lv_sub hl [1, 2, 0] rfl)
    · replace hw := hw.2 c3
      refine lv_bipush (v := (-4)) hx hb dX11_feed_27 (by decide) ?_
      exact W.iret (v := (-4)) hx hb hr (fun t ht hW => ⟨⟨(-4), f_t_s, rfl, hw, post_mk ht hP hD⟩, hS.F ht⟩) hS.2.2 dX11_feed_29 hlocks
  · replace hw := hw.1 c2
    refine lv_bipush (v := (-2)) hx hb dX11_feed_10 (by decide) ?_
    exact W.iret (v := (-2)) hx hb hr (fun t ht hW => ⟨⟨(-2), f_t_s, rfl, hw, post_mk ht hP hD⟩, hS.F ht⟩) hS.2.2 dX11_feed_12 hlocks
set_option maxHeartbeats 8000000 in
set_option maxRecDepth 100000 in
theorem MX11_starts (l : Launch) (D : va_G) (cyI cyZ cyC : ClassId) (ro : va_W) (ce : Nat → CT) (cin : Nat → Prop) (ad : AD) (a_t a_t_s : Nat) (w_t_thrown w_t_image w_t_hasImage w_t_act w_t_readMany w_t_readSpan w_t_readSum w_t_readOdds w_t_readBank w_t_readMill w_t_readLevel w_t_levels w_t_boardsNow w_t_ways w_t_nexts w_t_hourNow w_t_staying w_t_leftCard w_t_leftLine w_t_isMute w_t_higher w_t_over w_t_dry w_t_truths w_t_failHours w_t_failRow w_t_keptBoards w_t_keptHung w_t_bodies w_t_ran w_t_kind w_t_number w_t_tellsV : Value) (sz : Nat) (i_t_spot : Int32) (i_t_end : Int32) (i_t_isWrong : Int32) (i_t_open : Int32) (f_t_s : Nat → Int32) (Q : Int32 → Int32 → Int32 → Int32 → (Nat → Int32) → Prop)  (hw : WX11_starts i_t_spot i_t_end i_t_isWrong i_t_open f_t_s Q) : Met l yX11_starts wsX11_starts ({ frames := 0, cells := 0, slots := 0, locals := 0 }) (va_Pc [.ref a_t] (PRE D cyI cyZ cyC ro ce cin ad (SX11_starts cyI cyZ cyC a_t a_t_s w_t_thrown w_t_image w_t_hasImage w_t_act w_t_readMany w_t_readSpan w_t_readSum w_t_readOdds w_t_readBank w_t_readMill w_t_readLevel w_t_levels w_t_boardsNow w_t_ways w_t_nexts w_t_hourNow w_t_staying w_t_leftCard w_t_leftLine w_t_isMute w_t_higher w_t_over w_t_dry w_t_truths w_t_failHours w_t_failRow w_t_keptBoards w_t_keptHung w_t_bodies w_t_ran w_t_kind w_t_number w_t_tellsV  i_t_spot i_t_end i_t_isWrong i_t_open f_t_s) sz)) (va_Qv (fun (u : Int32 × Int32 × Int32 × Int32 × (Nat → Int32)) => Q u.1 u.2.1 u.2.2.1 u.2.2.2.1 u.2.2.2.2) (fun (u : Int32 × Int32 × Int32 × Int32 × (Nat → Int32)) (t : State) => POST D (va_A (SX11_starts cyI cyZ cyC a_t a_t_s w_t_thrown w_t_image w_t_hasImage w_t_act w_t_readMany w_t_readSpan w_t_readSum w_t_readOdds w_t_readBank w_t_readMill w_t_readLevel w_t_levels w_t_boardsNow w_t_ways w_t_nexts w_t_hourNow w_t_staying w_t_leftCard w_t_leftLine w_t_isMute w_t_higher w_t_over w_t_dry w_t_truths w_t_failHours w_t_failRow w_t_keptBoards w_t_keptHung w_t_bodies w_t_ran w_t_kind w_t_number w_t_tellsV  i_t_spot i_t_end i_t_isWrong i_t_open f_t_s) sz) (SX11_starts cyI cyZ cyC a_t a_t_s w_t_thrown w_t_image w_t_hasImage w_t_act w_t_readMany w_t_readSpan w_t_readSum w_t_readOdds w_t_readBank w_t_readMill w_t_readLevel w_t_levels w_t_boardsNow w_t_ways w_t_nexts w_t_hourNow w_t_staying w_t_leftCard w_t_leftLine w_t_isMute w_t_higher w_t_over w_t_dry w_t_truths w_t_failHours w_t_failRow w_t_keptBoards w_t_keptHung w_t_bodies w_t_ran w_t_kind w_t_number w_t_tellsV  u.1 u.2.1 u.2.2.1 u.2.2.2.1 u.2.2.2.2) t) (va_A (SX11_starts cyI cyZ cyC a_t a_t_s w_t_thrown w_t_image w_t_hasImage w_t_act w_t_readMany w_t_readSpan w_t_readSum w_t_readOdds w_t_readBank w_t_readMill w_t_readLevel w_t_levels w_t_boardsNow w_t_ways w_t_nexts w_t_hourNow w_t_staying w_t_leftCard w_t_leftLine w_t_isMute w_t_higher w_t_over w_t_dry w_t_truths w_t_failHours w_t_failRow w_t_keptBoards w_t_keptHung w_t_bodies w_t_ran w_t_kind w_t_number w_t_tellsV  i_t_spot i_t_end i_t_isWrong i_t_open f_t_s) sz)) 0 0 (va_A (SX11_starts cyI cyZ cyC a_t a_t_s w_t_thrown w_t_image w_t_hasImage w_t_act w_t_readMany w_t_readSpan w_t_readSum w_t_readOdds w_t_readBank w_t_readMill w_t_readLevel w_t_levels w_t_boardsNow w_t_ways w_t_nexts w_t_hourNow w_t_staying w_t_leftCard w_t_leftLine w_t_isMute w_t_higher w_t_over w_t_dry w_t_truths w_t_failHours w_t_failRow w_t_keptBoards w_t_keptHung w_t_bodies w_t_ran w_t_kind w_t_number w_t_tellsV  i_t_spot i_t_end i_t_isWrong i_t_open f_t_s) sz) := by
  refine Met.ofW (cc := cX11_starts) (maxL := 1) (ret := none) (by decide +kernel) rfl ?_
  intro p e s m args below meth c s₁ B hml hv
  obtain ⟨rfl, hsz, hP, hK, hD0, hX⟩ := hv
  have hx := B.exec
  have hb := B.bytes
  have hr := B.returns
  have hts := atoms_spec (ws := wsX11_starts) B.pre
  have hown : s.vm.findClass RX11 = some m.cls := findClass_of_methodNamed B.named
  have hlocks := B.notSynchronized
  clear B
  subst hsz
  have hD := hD0.self (sz := s.heap.size)
  clear hD0
  generalize hAe : va_A (SX11_starts cyI cyZ cyC a_t a_t_s w_t_thrown w_t_image w_t_hasImage w_t_act w_t_readMany w_t_readSpan w_t_readSum w_t_readOdds w_t_readBank w_t_readMill w_t_readLevel w_t_levels w_t_boardsNow w_t_ways w_t_nexts w_t_hourNow w_t_staying w_t_leftCard w_t_leftLine w_t_isMute w_t_higher w_t_over w_t_dry w_t_truths w_t_failHours w_t_failRow w_t_keptBoards w_t_keptHung w_t_bodies w_t_ran w_t_kind w_t_number w_t_tellsV  i_t_spot i_t_end i_t_isWrong i_t_open f_t_s) s.heap.size = A at hD hX ⊢
  have hA : ∀ q : Nat, s.heap.size ≤ q → A q := fun q h => by rw [← hAe]; exact Or.inr h
  clear hAe
  obtain ⟨H, hH⟩ : ∃ H, H = s.heap := ⟨_, rfl⟩
  rw [← hH] at hP ⊢
  have hS : va_S A s.heap H [] := by rw [hH]; exact va_S.rf
  clear hH
  replace hP : va_P D vwCl [(a_t, .inr (10, [w_t_thrown, .ref a_t_s, w_t_image, w_t_hasImage, w_t_act, .int i_t_spot, .int i_t_end, .int i_t_isWrong, .int i_t_open, w_t_readMany, w_t_readSpan, w_t_readSum, w_t_readOdds, w_t_readBank, w_t_readMill, w_t_readLevel, w_t_levels, w_t_boardsNow, w_t_ways, w_t_nexts, w_t_hourNow, w_t_staying, w_t_leftCard, w_t_leftLine, w_t_isMute, w_t_higher, w_t_over, w_t_dry, w_t_truths, w_t_failHours, w_t_failRow, w_t_keptBoards, w_t_keptHung, w_t_bodies, w_t_ran, w_t_kind, w_t_number, w_t_tellsV])), (a_t_s, .inl (cyI, 1454, .inl f_t_s))] H := hP
  replace hD : va_D A [(a_t, .inr (10, [w_t_thrown, .ref a_t_s, w_t_image, w_t_hasImage, w_t_act, .int i_t_spot, .int i_t_end, .int i_t_isWrong, .int i_t_open, w_t_readMany, w_t_readSpan, w_t_readSum, w_t_readOdds, w_t_readBank, w_t_readMill, w_t_readLevel, w_t_levels, w_t_boardsNow, w_t_ways, w_t_nexts, w_t_hourNow, w_t_staying, w_t_leftCard, w_t_leftLine, w_t_isMute, w_t_higher, w_t_over, w_t_dry, w_t_truths, w_t_failHours, w_t_failRow, w_t_keptBoards, w_t_keptHung, w_t_bodies, w_t_ran, w_t_kind, w_t_number, w_t_tellsV])), (a_t_s, .inl (cyI, 1454, .inl f_t_s))] := hD
  have hl := lv_entry ([.ref a_t]) (n := 1) (Nat.le_of_ble_eq_true rfl)
  rw [lg_entry_eq]
  generalize (lg_sl ([.ref a_t]) ++ List.replicate (1 - (lg_sl ([.ref a_t])).length) Slot.unset).toArray = ls at hl ⊢
  replace hl : lv_has ls 1 [(0, .ref a_t)] := hl
  unfold WX11_starts at hw
  refine lv_aload_n hx hb dX11_starts_0 rfl (lv_at hl 0 rfl) ?_
  refine lv_aload_n hx hb dX11_starts_1 rfl (lv_at hl 0 rfl) ?_
  refine va_get (D := D) (ci := 10) (v := .ref a_t_s) (C := RX11) (T := TX11) (N := 38) hx hb hts inX11_starts_X11 hown hK hP 0 rfl rfl 1 (by decide) (hts _ (List.mem_of_getElem? (i := 1) rfl)) (fun _ h9 => h9) rfl dX11_starts_2 ?_
  refine lv_bipush (v := 7) hx hb dX11_starts_5 (by decide) ?_
  refine va_iald hx hb hK hP 1 0 rfl rfl (vpc rfl) dX11_starts_7 ?_
  refine lv_topi (fun y1 ey1 => ?_)
  replace hw := hw y1 ey1
  refine va_put (D := D) (ci := 10) (v := .int y1) (ty := .int) (C := RX11) (T := TX11) (N := 38) hx hb hts inX11_starts_X11 tyX11 tyX11_ok nmX11 hown hK hP hD hS 0 rfl rfl 6 (by decide) (hts _ (List.mem_of_getElem? (i := 2) rfl)) (fun _ h9 => h9) rfl (tyX11_ok 6 (by decide)) rfl rfl (Nat.le_of_ble_eq_true rfl) dX11_starts_8 (fun H locs hP hD hS => ?_)
  replace hP : va_P D vwCl [(a_t, .inr (10, [w_t_thrown, .ref a_t_s, w_t_image, w_t_hasImage, w_t_act, .int i_t_spot, .int y1, .int i_t_isWrong, .int i_t_open, w_t_readMany, w_t_readSpan, w_t_readSum, w_t_readOdds, w_t_readBank, w_t_readMill, w_t_readLevel, w_t_levels, w_t_boardsNow, w_t_ways, w_t_nexts, w_t_hourNow, w_t_staying, w_t_leftCard, w_t_leftLine, w_t_isMute, w_t_higher, w_t_over, w_t_dry, w_t_truths, w_t_failHours, w_t_failRow, w_t_keptBoards, w_t_keptHung, w_t_bodies, w_t_ran, w_t_kind, w_t_number, w_t_tellsV])), (a_t_s, .inl (cyI, 1454, .inl f_t_s))] H := hP
  replace hD : va_D A [(a_t, .inr (10, [w_t_thrown, .ref a_t_s, w_t_image, w_t_hasImage, w_t_act, .int i_t_spot, .int y1, .int i_t_isWrong, .int i_t_open, w_t_readMany, w_t_readSpan, w_t_readSum, w_t_readOdds, w_t_readBank, w_t_readMill, w_t_readLevel, w_t_levels, w_t_boardsNow, w_t_ways, w_t_nexts, w_t_hourNow, w_t_staying, w_t_leftCard, w_t_leftLine, w_t_isMute, w_t_higher, w_t_over, w_t_dry, w_t_truths, w_t_failHours, w_t_failRow, w_t_keptBoards, w_t_keptHung, w_t_bodies, w_t_ran, w_t_kind, w_t_number, w_t_tellsV])), (a_t_s, .inl (cyI, 1454, .inl f_t_s))] := hD
  refine lv_aload_n hx hb dX11_starts_11 rfl (lv_at hl 0 rfl) ?_
  refine va_get (D := D) (ci := 10) (v := .ref a_t_s) (C := RX11) (T := TX11) (N := 38) hx hb hts inX11_starts_X11 hown hK hP 0 rfl rfl 1 (by decide) (hts _ (List.mem_of_getElem? (i := 1) rfl)) (fun _ h9 => h9) rfl dX11_starts_12 ?_
  refine lv_bipush (v := 7) hx hb dX11_starts_15 (by decide) ?_
  refine lv_iconst (v := 0) hx hb dX11_starts_17 (by decide) ?_
  refine va_iast hx hb hK hP hD hS 1 0 rfl rfl (vpc rfl) dX11_starts_18 (fun H locs hP hD hS => ?_)
  replace hP : va_P D vwCl [(a_t, .inr (10, [w_t_thrown, .ref a_t_s, w_t_image, w_t_hasImage, w_t_act, .int i_t_spot, .int y1, .int i_t_isWrong, .int i_t_open, w_t_readMany, w_t_readSpan, w_t_readSum, w_t_readOdds, w_t_readBank, w_t_readMill, w_t_readLevel, w_t_levels, w_t_boardsNow, w_t_ways, w_t_nexts, w_t_hourNow, w_t_staying, w_t_leftCard, w_t_leftLine, w_t_isMute, w_t_higher, w_t_over, w_t_dry, w_t_truths, w_t_failHours, w_t_failRow, w_t_keptBoards, w_t_keptHung, w_t_bodies, w_t_ran, w_t_kind, w_t_number, w_t_tellsV])), (a_t_s, .inl (cyI, 1454, .inl (upd f_t_s (7 : Int32).toNatClampNeg 0)))] H := hP
  replace hD : va_D A [(a_t, .inr (10, [w_t_thrown, .ref a_t_s, w_t_image, w_t_hasImage, w_t_act, .int i_t_spot, .int y1, .int i_t_isWrong, .int i_t_open, w_t_readMany, w_t_readSpan, w_t_readSum, w_t_readOdds, w_t_readBank, w_t_readMill, w_t_readLevel, w_t_levels, w_t_boardsNow, w_t_ways, w_t_nexts, w_t_hourNow, w_t_staying, w_t_leftCard, w_t_leftLine, w_t_isMute, w_t_higher, w_t_over, w_t_dry, w_t_truths, w_t_failHours, w_t_failRow, w_t_keptBoards, w_t_keptHung, w_t_bodies, w_t_ran, w_t_kind, w_t_number, w_t_tellsV])), (a_t_s, .inl (cyI, 1454, .inl (upd f_t_s (7 : Int32).toNatClampNeg 0)))] := hD
  refine lv_aload_n hx hb dX11_starts_19 rfl (lv_at hl 0 rfl) ?_
  refine lv_iconst (v := 0) hx hb dX11_starts_20 (by decide) ?_
  refine va_put (D := D) (ci := 10) (v := .int 0) (ty := .int) (C := RX11) (T := TX11) (N := 38) hx hb hts inX11_starts_X11 tyX11 tyX11_ok nmX11 hown hK hP hD hS 0 rfl rfl 5 (by decide) (hts _ (List.mem_of_getElem? (i := 3) rfl)) (fun _ h9 => h9) rfl (tyX11_ok 5 (by decide)) rfl rfl (Nat.le_of_ble_eq_true rfl) dX11_starts_21 (fun H locs hP hD hS => ?_)
  replace hP : va_P D vwCl [(a_t, .inr (10, [w_t_thrown, .ref a_t_s, w_t_image, w_t_hasImage, w_t_act, .int 0, .int y1, .int i_t_isWrong, .int i_t_open, w_t_readMany, w_t_readSpan, w_t_readSum, w_t_readOdds, w_t_readBank, w_t_readMill, w_t_readLevel, w_t_levels, w_t_boardsNow, w_t_ways, w_t_nexts, w_t_hourNow, w_t_staying, w_t_leftCard, w_t_leftLine, w_t_isMute, w_t_higher, w_t_over, w_t_dry, w_t_truths, w_t_failHours, w_t_failRow, w_t_keptBoards, w_t_keptHung, w_t_bodies, w_t_ran, w_t_kind, w_t_number, w_t_tellsV])), (a_t_s, .inl (cyI, 1454, .inl (upd f_t_s (7 : Int32).toNatClampNeg 0)))] H := hP
  replace hD : va_D A [(a_t, .inr (10, [w_t_thrown, .ref a_t_s, w_t_image, w_t_hasImage, w_t_act, .int 0, .int y1, .int i_t_isWrong, .int i_t_open, w_t_readMany, w_t_readSpan, w_t_readSum, w_t_readOdds, w_t_readBank, w_t_readMill, w_t_readLevel, w_t_levels, w_t_boardsNow, w_t_ways, w_t_nexts, w_t_hourNow, w_t_staying, w_t_leftCard, w_t_leftLine, w_t_isMute, w_t_higher, w_t_over, w_t_dry, w_t_truths, w_t_failHours, w_t_failRow, w_t_keptBoards, w_t_keptHung, w_t_bodies, w_t_ran, w_t_kind, w_t_number, w_t_tellsV])), (a_t_s, .inl (cyI, 1454, .inl (upd f_t_s (7 : Int32).toNatClampNeg 0)))] := hD
  refine lv_aload_n hx hb dX11_starts_24 rfl (lv_at hl 0 rfl) ?_
  refine lv_iconst (v := 0) hx hb dX11_starts_25 (by decide) ?_
  refine va_put (D := D) (ci := 10) (v := .int 0) (ty := .boolean) (C := RX11) (T := TX11) (N := 38) hx hb hts inX11_starts_X11 tyX11 tyX11_ok nmX11 hown hK hP hD hS 0 rfl rfl 7 (by decide) (hts _ (List.mem_of_getElem? (i := 4) rfl)) (fun _ h9 => h9) rfl (tyX11_ok 7 (by decide)) rfl rfl (Nat.le_of_ble_eq_true rfl) dX11_starts_26 (fun H locs hP hD hS => ?_)
  replace hP : va_P D vwCl [(a_t, .inr (10, [w_t_thrown, .ref a_t_s, w_t_image, w_t_hasImage, w_t_act, .int 0, .int y1, .int 0, .int i_t_open, w_t_readMany, w_t_readSpan, w_t_readSum, w_t_readOdds, w_t_readBank, w_t_readMill, w_t_readLevel, w_t_levels, w_t_boardsNow, w_t_ways, w_t_nexts, w_t_hourNow, w_t_staying, w_t_leftCard, w_t_leftLine, w_t_isMute, w_t_higher, w_t_over, w_t_dry, w_t_truths, w_t_failHours, w_t_failRow, w_t_keptBoards, w_t_keptHung, w_t_bodies, w_t_ran, w_t_kind, w_t_number, w_t_tellsV])), (a_t_s, .inl (cyI, 1454, .inl (upd f_t_s (7 : Int32).toNatClampNeg 0)))] H := hP
  replace hD : va_D A [(a_t, .inr (10, [w_t_thrown, .ref a_t_s, w_t_image, w_t_hasImage, w_t_act, .int 0, .int y1, .int 0, .int i_t_open, w_t_readMany, w_t_readSpan, w_t_readSum, w_t_readOdds, w_t_readBank, w_t_readMill, w_t_readLevel, w_t_levels, w_t_boardsNow, w_t_ways, w_t_nexts, w_t_hourNow, w_t_staying, w_t_leftCard, w_t_leftLine, w_t_isMute, w_t_higher, w_t_over, w_t_dry, w_t_truths, w_t_failHours, w_t_failRow, w_t_keptBoards, w_t_keptHung, w_t_bodies, w_t_ran, w_t_kind, w_t_number, w_t_tellsV])), (a_t_s, .inl (cyI, 1454, .inl (upd f_t_s (7 : Int32).toNatClampNeg 0)))] := hD
  refine lv_aload_n hx hb dX11_starts_29 rfl (lv_at hl 0 rfl) ?_
  refine lv_iconst (v := 0) hx hb dX11_starts_30 (by decide) ?_
  refine va_put (D := D) (ci := 10) (v := .int 0) (ty := .int) (C := RX11) (T := TX11) (N := 38) hx hb hts inX11_starts_X11 tyX11 tyX11_ok nmX11 hown hK hP hD hS 0 rfl rfl 8 (by decide) (hts _ (List.mem_of_getElem? (i := 5) rfl)) (fun _ h9 => h9) rfl (tyX11_ok 8 (by decide)) rfl rfl (Nat.le_of_ble_eq_true rfl) dX11_starts_31 (fun H locs hP hD hS => ?_)
  replace hP : va_P D vwCl [(a_t, .inr (10, [w_t_thrown, .ref a_t_s, w_t_image, w_t_hasImage, w_t_act, .int 0, .int y1, .int 0, .int 0, w_t_readMany, w_t_readSpan, w_t_readSum, w_t_readOdds, w_t_readBank, w_t_readMill, w_t_readLevel, w_t_levels, w_t_boardsNow, w_t_ways, w_t_nexts, w_t_hourNow, w_t_staying, w_t_leftCard, w_t_leftLine, w_t_isMute, w_t_higher, w_t_over, w_t_dry, w_t_truths, w_t_failHours, w_t_failRow, w_t_keptBoards, w_t_keptHung, w_t_bodies, w_t_ran, w_t_kind, w_t_number, w_t_tellsV])), (a_t_s, .inl (cyI, 1454, .inl (upd f_t_s (7 : Int32).toNatClampNeg 0)))] H := hP
  replace hD : va_D A [(a_t, .inr (10, [w_t_thrown, .ref a_t_s, w_t_image, w_t_hasImage, w_t_act, .int 0, .int y1, .int 0, .int 0, w_t_readMany, w_t_readSpan, w_t_readSum, w_t_readOdds, w_t_readBank, w_t_readMill, w_t_readLevel, w_t_levels, w_t_boardsNow, w_t_ways, w_t_nexts, w_t_hourNow, w_t_staying, w_t_leftCard, w_t_leftLine, w_t_isMute, w_t_higher, w_t_over, w_t_dry, w_t_truths, w_t_failHours, w_t_failRow, w_t_keptBoards, w_t_keptHung, w_t_bodies, w_t_ran, w_t_kind, w_t_number, w_t_tellsV])), (a_t_s, .inl (cyI, 1454, .inl (upd f_t_s (7 : Int32).toNatClampNeg 0)))] := hD
  exact W.vret hx hb hr (fun t ht hW => ⟨⟨(0, y1, 0, 0, upd f_t_s (7 : Int32).toNatClampNeg 0), rfl, hw, post_mk ht hP hD⟩, hS.F ht⟩) hS.2.2 dX11_starts_34 hlocks
set_option maxHeartbeats 8000000 in
set_option maxRecDepth 100000 in
theorem MX11_here (l : Launch) (D : va_G) (cyI cyZ cyC : ClassId) (ro : va_W) (ce : Nat → CT) (cin : Nat → Prop) (ad : AD) (a_t a_t_s : Nat) (w_t_thrown w_t_image w_t_hasImage w_t_act w_t_isWrong w_t_open w_t_readMany w_t_readSpan w_t_readSum w_t_readOdds w_t_readBank w_t_readMill w_t_readLevel w_t_levels w_t_boardsNow w_t_ways w_t_nexts w_t_hourNow w_t_staying w_t_leftCard w_t_leftLine w_t_isMute w_t_higher w_t_over w_t_dry w_t_truths w_t_failHours w_t_failRow w_t_keptBoards w_t_keptHung w_t_bodies w_t_ran w_t_kind w_t_number w_t_tellsV : Value) (sz : Nat) (i_t_spot : Int32) (i_t_end : Int32) (f_t_s : Nat → Int32) (Q : Int32 → Prop)  (hw : WX11_here i_t_spot i_t_end f_t_s Q) : Met l yX11_here wsX11_here ({ frames := 0, cells := 0, slots := 0, locals := 0 }) (va_Pc [.ref a_t] (PRE D cyI cyZ cyC ro ce cin ad (SX11_here cyI cyZ cyC a_t a_t_s w_t_thrown w_t_image w_t_hasImage w_t_act w_t_isWrong w_t_open w_t_readMany w_t_readSpan w_t_readSum w_t_readOdds w_t_readBank w_t_readMill w_t_readLevel w_t_levels w_t_boardsNow w_t_ways w_t_nexts w_t_hourNow w_t_staying w_t_leftCard w_t_leftLine w_t_isMute w_t_higher w_t_over w_t_dry w_t_truths w_t_failHours w_t_failRow w_t_keptBoards w_t_keptHung w_t_bodies w_t_ran w_t_kind w_t_number w_t_tellsV  i_t_spot i_t_end f_t_s) sz)) (va_Qi (fun (r : Int32) (_ : Unit) => Q r) (fun (_ : Unit) (t : State) => POST D (va_A (SX11_here cyI cyZ cyC a_t a_t_s w_t_thrown w_t_image w_t_hasImage w_t_act w_t_isWrong w_t_open w_t_readMany w_t_readSpan w_t_readSum w_t_readOdds w_t_readBank w_t_readMill w_t_readLevel w_t_levels w_t_boardsNow w_t_ways w_t_nexts w_t_hourNow w_t_staying w_t_leftCard w_t_leftLine w_t_isMute w_t_higher w_t_over w_t_dry w_t_truths w_t_failHours w_t_failRow w_t_keptBoards w_t_keptHung w_t_bodies w_t_ran w_t_kind w_t_number w_t_tellsV  i_t_spot i_t_end f_t_s) sz) (SX11_here cyI cyZ cyC a_t a_t_s w_t_thrown w_t_image w_t_hasImage w_t_act w_t_isWrong w_t_open w_t_readMany w_t_readSpan w_t_readSum w_t_readOdds w_t_readBank w_t_readMill w_t_readLevel w_t_levels w_t_boardsNow w_t_ways w_t_nexts w_t_hourNow w_t_staying w_t_leftCard w_t_leftLine w_t_isMute w_t_higher w_t_over w_t_dry w_t_truths w_t_failHours w_t_failRow w_t_keptBoards w_t_keptHung w_t_bodies w_t_ran w_t_kind w_t_number w_t_tellsV  i_t_spot i_t_end f_t_s) t) (va_A (SX11_here cyI cyZ cyC a_t a_t_s w_t_thrown w_t_image w_t_hasImage w_t_act w_t_isWrong w_t_open w_t_readMany w_t_readSpan w_t_readSum w_t_readOdds w_t_readBank w_t_readMill w_t_readLevel w_t_levels w_t_boardsNow w_t_ways w_t_nexts w_t_hourNow w_t_staying w_t_leftCard w_t_leftLine w_t_isMute w_t_higher w_t_over w_t_dry w_t_truths w_t_failHours w_t_failRow w_t_keptBoards w_t_keptHung w_t_bodies w_t_ran w_t_kind w_t_number w_t_tellsV  i_t_spot i_t_end f_t_s) sz)) 0 0 (va_A (SX11_here cyI cyZ cyC a_t a_t_s w_t_thrown w_t_image w_t_hasImage w_t_act w_t_isWrong w_t_open w_t_readMany w_t_readSpan w_t_readSum w_t_readOdds w_t_readBank w_t_readMill w_t_readLevel w_t_levels w_t_boardsNow w_t_ways w_t_nexts w_t_hourNow w_t_staying w_t_leftCard w_t_leftLine w_t_isMute w_t_higher w_t_over w_t_dry w_t_truths w_t_failHours w_t_failRow w_t_keptBoards w_t_keptHung w_t_bodies w_t_ran w_t_kind w_t_number w_t_tellsV  i_t_spot i_t_end f_t_s) sz) := by
  refine Met.ofW (cc := cX11_here) (maxL := 1) (ret := (some .int)) (by decide +kernel) rfl ?_
  intro p e s m args below meth c s₁ B hml hv
  obtain ⟨rfl, hsz, hP, hK, hD0, hX⟩ := hv
  have hx := B.exec
  have hb := B.bytes
  have hr := B.returns
  have hts := atoms_spec (ws := wsX11_here) B.pre
  have hown : s.vm.findClass RX11 = some m.cls := findClass_of_methodNamed B.named
  have hlocks := B.notSynchronized
  clear B
  subst hsz
  have hD := hD0.self (sz := s.heap.size)
  clear hD0
  generalize hAe : va_A (SX11_here cyI cyZ cyC a_t a_t_s w_t_thrown w_t_image w_t_hasImage w_t_act w_t_isWrong w_t_open w_t_readMany w_t_readSpan w_t_readSum w_t_readOdds w_t_readBank w_t_readMill w_t_readLevel w_t_levels w_t_boardsNow w_t_ways w_t_nexts w_t_hourNow w_t_staying w_t_leftCard w_t_leftLine w_t_isMute w_t_higher w_t_over w_t_dry w_t_truths w_t_failHours w_t_failRow w_t_keptBoards w_t_keptHung w_t_bodies w_t_ran w_t_kind w_t_number w_t_tellsV  i_t_spot i_t_end f_t_s) s.heap.size = A at hD hX ⊢
  have hA : ∀ q : Nat, s.heap.size ≤ q → A q := fun q h => by rw [← hAe]; exact Or.inr h
  clear hAe
  obtain ⟨H, hH⟩ : ∃ H, H = s.heap := ⟨_, rfl⟩
  rw [← hH] at hP ⊢
  have hS : va_S A s.heap H [] := by rw [hH]; exact va_S.rf
  clear hH
  replace hP : va_P D vwCl [(a_t, .inr (10, [w_t_thrown, .ref a_t_s, w_t_image, w_t_hasImage, w_t_act, .int i_t_spot, .int i_t_end, w_t_isWrong, w_t_open, w_t_readMany, w_t_readSpan, w_t_readSum, w_t_readOdds, w_t_readBank, w_t_readMill, w_t_readLevel, w_t_levels, w_t_boardsNow, w_t_ways, w_t_nexts, w_t_hourNow, w_t_staying, w_t_leftCard, w_t_leftLine, w_t_isMute, w_t_higher, w_t_over, w_t_dry, w_t_truths, w_t_failHours, w_t_failRow, w_t_keptBoards, w_t_keptHung, w_t_bodies, w_t_ran, w_t_kind, w_t_number, w_t_tellsV])), (a_t_s, .inl (cyI, 1454, .inl f_t_s))] H := hP
  replace hD : va_D A [(a_t, .inr (10, [w_t_thrown, .ref a_t_s, w_t_image, w_t_hasImage, w_t_act, .int i_t_spot, .int i_t_end, w_t_isWrong, w_t_open, w_t_readMany, w_t_readSpan, w_t_readSum, w_t_readOdds, w_t_readBank, w_t_readMill, w_t_readLevel, w_t_levels, w_t_boardsNow, w_t_ways, w_t_nexts, w_t_hourNow, w_t_staying, w_t_leftCard, w_t_leftLine, w_t_isMute, w_t_higher, w_t_over, w_t_dry, w_t_truths, w_t_failHours, w_t_failRow, w_t_keptBoards, w_t_keptHung, w_t_bodies, w_t_ran, w_t_kind, w_t_number, w_t_tellsV])), (a_t_s, .inl (cyI, 1454, .inl f_t_s))] := hD
  have hl := lv_entry ([.ref a_t]) (n := 1) (Nat.le_of_ble_eq_true rfl)
  rw [lg_entry_eq]
  generalize (lg_sl ([.ref a_t]) ++ List.replicate (1 - (lg_sl ([.ref a_t])).length) Slot.unset).toArray = ls at hl ⊢
  replace hl : lv_has ls 1 [(0, .ref a_t)] := hl
  unfold WX11_here at hw
  refine lv_aload_n hx hb dX11_here_0 rfl (lv_at hl 0 rfl) ?_
  refine va_get (D := D) (ci := 10) (v := .int i_t_spot) (C := RX11) (T := TX11) (N := 38) hx hb hts inX11_here_X11 hown hK hP 0 rfl rfl 5 (by decide) (hts _ (List.mem_of_getElem? (i := 1) rfl)) (fun _ h9 => h9) rfl dX11_here_1 ?_
  refine lv_aload_n hx hb dX11_here_4 rfl (lv_at hl 0 rfl) ?_
  refine va_get (D := D) (ci := 10) (v := .int i_t_end) (C := RX11) (T := TX11) (N := 38) hx hb hts inX11_here_X11 hown hK hP 0 rfl rfl 6 (by decide) (hts _ (List.mem_of_getElem? (i := 2) rfl)) (fun _ h9 => h9) rfl dX11_here_5 ?_
  refine lv_icmp_ge (tgt := 26) hx hb dX11_here_8 (by decide) (fun c1 => ?_) (fun c1 => ?_)
  · replace hw := hw.1 c1
    refine lv_iconst (v := (-1)) hx hb dX11_here_26 (by decide) ?_
    exact W.iret (v := (-1)) hx hb hr (fun t ht hW => ⟨⟨(-1), (), rfl, hw, post_mk ht hP hD⟩, hS.F ht⟩) hS.2.2 dX11_here_27 hlocks
  · replace hw := hw.2 c1
    refine lv_aload_n hx hb dX11_here_11 rfl (lv_at hl 0 rfl) ?_
    refine va_get (D := D) (ci := 10) (v := .ref a_t_s) (C := RX11) (T := TX11) (N := 38) hx hb hts inX11_here_X11 hown hK hP 0 rfl rfl 1 (by decide) (hts _ (List.mem_of_getElem? (i := 3) rfl)) (fun _ h9 => h9) rfl dX11_here_12 ?_
    refine lv_bipush (v := 10) hx hb dX11_here_15 (by decide) ?_
    refine lv_aload_n hx hb dX11_here_17 rfl (lv_at hl 0 rfl) ?_
    refine va_get (D := D) (ci := 10) (v := .int i_t_spot) (C := RX11) (T := TX11) (N := 38) hx hb hts inX11_here_X11 hown hK hP 0 rfl rfl 5 (by decide) (hts _ (List.mem_of_getElem? (i := 1) rfl)) (fun _ h9 => h9) rfl dX11_here_18 ?_
    refine lv_iadd hx hb dX11_here_21 ?_
    have h2 := hw.1
    replace hw := hw.2
    refine va_iald hx hb hK hP 1 0 rfl rfl h2 dX11_here_22 ?_
    refine lv_goto (tgt := 27) hx hb dX11_here_23 (by decide) ?_
    exact W.iret (v := f_t_s (10 + i_t_spot).toNatClampNeg) hx hb hr (fun t ht hW => ⟨⟨f_t_s (10 + i_t_spot).toNatClampNeg, (), rfl, hw, post_mk ht hP hD⟩, hS.F ht⟩) hS.2.2 dX11_here_27 hlocks
set_option maxHeartbeats 8000000 in
set_option maxRecDepth 100000 in
theorem MX11_must (l : Launch) (D : va_G) (cyI cyZ cyC : ClassId) (ro : va_W) (ce : Nat → CT) (cin : Nat → Prop) (ad : AD) (a_t a_t_s : Nat) (w_t_thrown w_t_image w_t_hasImage w_t_act w_t_open w_t_readMany w_t_readSpan w_t_readSum w_t_readOdds w_t_readBank w_t_readMill w_t_readLevel w_t_levels w_t_boardsNow w_t_ways w_t_nexts w_t_hourNow w_t_staying w_t_leftCard w_t_leftLine w_t_isMute w_t_higher w_t_over w_t_dry w_t_truths w_t_failHours w_t_failRow w_t_keptBoards w_t_keptHung w_t_bodies w_t_ran w_t_kind w_t_number w_t_tellsV : Value) (sz : Nat) (x1 : Int32) (i_t_spot : Int32) (i_t_end : Int32) (i_t_isWrong : Int32) (f_t_s : Nat → Int32) (Q : Int32 → Int32 → Prop)  (hw : WX11_must x1 i_t_spot i_t_end i_t_isWrong f_t_s Q) : Met l yX11_must wsX11_must ({ frames := 1, cells := 0, slots := 0, locals := 20 }) (va_Pc [.ref a_t, .int x1] (PRE D cyI cyZ cyC ro ce cin ad (SX11_must cyI cyZ cyC a_t a_t_s w_t_thrown w_t_image w_t_hasImage w_t_act w_t_open w_t_readMany w_t_readSpan w_t_readSum w_t_readOdds w_t_readBank w_t_readMill w_t_readLevel w_t_levels w_t_boardsNow w_t_ways w_t_nexts w_t_hourNow w_t_staying w_t_leftCard w_t_leftLine w_t_isMute w_t_higher w_t_over w_t_dry w_t_truths w_t_failHours w_t_failRow w_t_keptBoards w_t_keptHung w_t_bodies w_t_ran w_t_kind w_t_number w_t_tellsV  i_t_spot i_t_end i_t_isWrong f_t_s) sz)) (va_Qv (fun (u : Int32 × Int32) => Q u.1 u.2) (fun (u : Int32 × Int32) (t : State) => POST D (va_A (SX11_must cyI cyZ cyC a_t a_t_s w_t_thrown w_t_image w_t_hasImage w_t_act w_t_open w_t_readMany w_t_readSpan w_t_readSum w_t_readOdds w_t_readBank w_t_readMill w_t_readLevel w_t_levels w_t_boardsNow w_t_ways w_t_nexts w_t_hourNow w_t_staying w_t_leftCard w_t_leftLine w_t_isMute w_t_higher w_t_over w_t_dry w_t_truths w_t_failHours w_t_failRow w_t_keptBoards w_t_keptHung w_t_bodies w_t_ran w_t_kind w_t_number w_t_tellsV  i_t_spot i_t_end i_t_isWrong f_t_s) sz) (SX11_must cyI cyZ cyC a_t a_t_s w_t_thrown w_t_image w_t_hasImage w_t_act w_t_open w_t_readMany w_t_readSpan w_t_readSum w_t_readOdds w_t_readBank w_t_readMill w_t_readLevel w_t_levels w_t_boardsNow w_t_ways w_t_nexts w_t_hourNow w_t_staying w_t_leftCard w_t_leftLine w_t_isMute w_t_higher w_t_over w_t_dry w_t_truths w_t_failHours w_t_failRow w_t_keptBoards w_t_keptHung w_t_bodies w_t_ran w_t_kind w_t_number w_t_tellsV  u.1 i_t_end u.2 f_t_s) t) (va_A (SX11_must cyI cyZ cyC a_t a_t_s w_t_thrown w_t_image w_t_hasImage w_t_act w_t_open w_t_readMany w_t_readSpan w_t_readSum w_t_readOdds w_t_readBank w_t_readMill w_t_readLevel w_t_levels w_t_boardsNow w_t_ways w_t_nexts w_t_hourNow w_t_staying w_t_leftCard w_t_leftLine w_t_isMute w_t_higher w_t_over w_t_dry w_t_truths w_t_failHours w_t_failRow w_t_keptBoards w_t_keptHung w_t_bodies w_t_ran w_t_kind w_t_number w_t_tellsV  i_t_spot i_t_end i_t_isWrong f_t_s) sz)) 0 0 (va_A (SX11_must cyI cyZ cyC a_t a_t_s w_t_thrown w_t_image w_t_hasImage w_t_act w_t_open w_t_readMany w_t_readSpan w_t_readSum w_t_readOdds w_t_readBank w_t_readMill w_t_readLevel w_t_levels w_t_boardsNow w_t_ways w_t_nexts w_t_hourNow w_t_staying w_t_leftCard w_t_leftLine w_t_isMute w_t_higher w_t_over w_t_dry w_t_truths w_t_failHours w_t_failRow w_t_keptBoards w_t_keptHung w_t_bodies w_t_ran w_t_kind w_t_number w_t_tellsV  i_t_spot i_t_end i_t_isWrong f_t_s) sz) := by
  refine Met.ofW (cc := cX11_must) (maxL := 2) (ret := none) (by decide +kernel) rfl ?_
  intro p e s m args below meth c s₁ B hml hv
  obtain ⟨rfl, hsz, hP, hK, hD0, hX⟩ := hv
  have hx := B.exec
  have hb := B.bytes
  have hr := B.returns
  have hts := atoms_spec (ws := wsX11_must) B.pre
  have hown : s.vm.findClass RX11 = some m.cls := findClass_of_methodNamed B.named
  have hlocks := B.notSynchronized
  clear B
  subst hsz
  have hD := hD0.self (sz := s.heap.size)
  clear hD0
  generalize hAe : va_A (SX11_must cyI cyZ cyC a_t a_t_s w_t_thrown w_t_image w_t_hasImage w_t_act w_t_open w_t_readMany w_t_readSpan w_t_readSum w_t_readOdds w_t_readBank w_t_readMill w_t_readLevel w_t_levels w_t_boardsNow w_t_ways w_t_nexts w_t_hourNow w_t_staying w_t_leftCard w_t_leftLine w_t_isMute w_t_higher w_t_over w_t_dry w_t_truths w_t_failHours w_t_failRow w_t_keptBoards w_t_keptHung w_t_bodies w_t_ran w_t_kind w_t_number w_t_tellsV  i_t_spot i_t_end i_t_isWrong f_t_s) s.heap.size = A at hD hX ⊢
  have hA : ∀ q : Nat, s.heap.size ≤ q → A q := fun q h => by rw [← hAe]; exact Or.inr h
  clear hAe
  obtain ⟨H, hH⟩ : ∃ H, H = s.heap := ⟨_, rfl⟩
  rw [← hH] at hP ⊢
  have hS : va_S A s.heap H [] := by rw [hH]; exact va_S.rf
  clear hH
  replace hP : va_P D vwCl [(a_t, .inr (10, [w_t_thrown, .ref a_t_s, w_t_image, w_t_hasImage, w_t_act, .int i_t_spot, .int i_t_end, .int i_t_isWrong, w_t_open, w_t_readMany, w_t_readSpan, w_t_readSum, w_t_readOdds, w_t_readBank, w_t_readMill, w_t_readLevel, w_t_levels, w_t_boardsNow, w_t_ways, w_t_nexts, w_t_hourNow, w_t_staying, w_t_leftCard, w_t_leftLine, w_t_isMute, w_t_higher, w_t_over, w_t_dry, w_t_truths, w_t_failHours, w_t_failRow, w_t_keptBoards, w_t_keptHung, w_t_bodies, w_t_ran, w_t_kind, w_t_number, w_t_tellsV])), (a_t_s, .inl (cyI, 1454, .inl f_t_s))] H := hP
  replace hD : va_D A [(a_t, .inr (10, [w_t_thrown, .ref a_t_s, w_t_image, w_t_hasImage, w_t_act, .int i_t_spot, .int i_t_end, .int i_t_isWrong, w_t_open, w_t_readMany, w_t_readSpan, w_t_readSum, w_t_readOdds, w_t_readBank, w_t_readMill, w_t_readLevel, w_t_levels, w_t_boardsNow, w_t_ways, w_t_nexts, w_t_hourNow, w_t_staying, w_t_leftCard, w_t_leftLine, w_t_isMute, w_t_higher, w_t_over, w_t_dry, w_t_truths, w_t_failHours, w_t_failRow, w_t_keptBoards, w_t_keptHung, w_t_bodies, w_t_ran, w_t_kind, w_t_number, w_t_tellsV])), (a_t_s, .inl (cyI, 1454, .inl f_t_s))] := hD
  have hl := lv_entry ([.ref a_t, .int x1]) (n := 2) (Nat.le_of_ble_eq_true rfl)
  rw [lg_entry_eq]
  generalize (lg_sl ([.ref a_t, .int x1]) ++ List.replicate (2 - (lg_sl ([.ref a_t, .int x1])).length) Slot.unset).toArray = ls at hl ⊢
  replace hl : lv_has ls 2 [(0, .ref a_t), (1, .int x1)] := hl
  have B41 : ∀ (s1 : Int32) (s2 : Int32) (i_t_spot : Int32) (i_t_isWrong : Int32), WX11_must_41 i_t_end f_t_s s1 s2 i_t_spot i_t_isWrong Q  → ∀ (H : Heap) (locs : List Loc), va_P D vwCl [(a_t, .inr (10, [w_t_thrown, .ref a_t_s, w_t_image, w_t_hasImage, w_t_act, .int i_t_spot, .int i_t_end, .int i_t_isWrong, w_t_open, w_t_readMany, w_t_readSpan, w_t_readSum, w_t_readOdds, w_t_readBank, w_t_readMill, w_t_readLevel, w_t_levels, w_t_boardsNow, w_t_ways, w_t_nexts, w_t_hourNow, w_t_staying, w_t_leftCard, w_t_leftLine, w_t_isMute, w_t_higher, w_t_over, w_t_dry, w_t_truths, w_t_failHours, w_t_failRow, w_t_keptBoards, w_t_keptHung, w_t_bodies, w_t_ran, w_t_kind, w_t_number, w_t_tellsV])), (a_t_s, .inl (cyI, 1454, .inl f_t_s))] H → va_D A [(a_t, .inr (10, [w_t_thrown, .ref a_t_s, w_t_image, w_t_hasImage, w_t_act, .int i_t_spot, .int i_t_end, .int i_t_isWrong, w_t_open, w_t_readMany, w_t_readSpan, w_t_readSum, w_t_readOdds, w_t_readBank, w_t_readMill, w_t_readLevel, w_t_levels, w_t_boardsNow, w_t_ways, w_t_nexts, w_t_hourNow, w_t_staying, w_t_leftCard, w_t_leftLine, w_t_isMute, w_t_higher, w_t_over, w_t_dry, w_t_truths, w_t_failHours, w_t_failRow, w_t_keptBoards, w_t_keptHung, w_t_bodies, w_t_ran, w_t_kind, w_t_number, w_t_tellsV])), (a_t_s, .inl (cyI, 1454, .inl f_t_s))] → va_S A s.heap H locs → ∀ (ls : Array Slot), lv_has ls 2 [] → W p l e { frames := 1, cells := 0, slots := 0, locals := 20 } s m ([.ref a_t, .int x1] : List Value).toArray below meth c H locs 0 0 (MQ below (va_Qv (fun (u : Int32 × Int32) => Q u.1 u.2) (fun (u : Int32 × Int32) (t : State) => POST D A (SX11_must cyI cyZ cyC a_t a_t_s w_t_thrown w_t_image w_t_hasImage w_t_act w_t_open w_t_readMany w_t_readSpan w_t_readSum w_t_readOdds w_t_readBank w_t_readMill w_t_readLevel w_t_levels w_t_boardsNow w_t_ways w_t_nexts w_t_hourNow w_t_staying w_t_leftCard w_t_leftLine w_t_isMute w_t_higher w_t_over w_t_dry w_t_truths w_t_failHours w_t_failRow w_t_keptBoards w_t_keptHung w_t_bodies w_t_ran w_t_kind w_t_number w_t_tellsV  u.1 i_t_end u.2 f_t_s) t) A) ([.ref a_t, .int x1] : List Value).toArray s 0 0 A) (F0 m 41 ls [.int s2, .int s1, .ref a_t]) := by
    intro s1 s2 i_t_spot i_t_isWrong hw H locs hP hD hS ls hl
    unfold WX11_must_41 at hw
    refine lv_iadd hx hb dX11_must_41 ?_
    refine lv_topi (fun y4 ey4 => ?_)
    replace hw := hw y4 ey4
    refine va_put (D := D) (ci := 10) (v := .int y4) (ty := .int) (C := RX11) (T := TX11) (N := 38) hx hb hts inX11_must_X11 tyX11 tyX11_ok nmX11 hown hK hP hD hS 0 rfl rfl 5 (by decide) (hts _ (List.mem_of_getElem? (i := 2) rfl)) (fun _ h9 => h9) rfl (tyX11_ok 5 (by decide)) rfl rfl (Nat.le_of_ble_eq_true rfl) dX11_must_42 (fun H locs hP hD hS => ?_)
    replace hP : va_P D vwCl [(a_t, .inr (10, [w_t_thrown, .ref a_t_s, w_t_image, w_t_hasImage, w_t_act, .int y4, .int i_t_end, .int i_t_isWrong, w_t_open, w_t_readMany, w_t_readSpan, w_t_readSum, w_t_readOdds, w_t_readBank, w_t_readMill, w_t_readLevel, w_t_levels, w_t_boardsNow, w_t_ways, w_t_nexts, w_t_hourNow, w_t_staying, w_t_leftCard, w_t_leftLine, w_t_isMute, w_t_higher, w_t_over, w_t_dry, w_t_truths, w_t_failHours, w_t_failRow, w_t_keptBoards, w_t_keptHung, w_t_bodies, w_t_ran, w_t_kind, w_t_number, w_t_tellsV])), (a_t_s, .inl (cyI, 1454, .inl f_t_s))] H := hP
    replace hD : va_D A [(a_t, .inr (10, [w_t_thrown, .ref a_t_s, w_t_image, w_t_hasImage, w_t_act, .int y4, .int i_t_end, .int i_t_isWrong, w_t_open, w_t_readMany, w_t_readSpan, w_t_readSum, w_t_readOdds, w_t_readBank, w_t_readMill, w_t_readLevel, w_t_levels, w_t_boardsNow, w_t_ways, w_t_nexts, w_t_hourNow, w_t_staying, w_t_leftCard, w_t_leftLine, w_t_isMute, w_t_higher, w_t_over, w_t_dry, w_t_truths, w_t_failHours, w_t_failRow, w_t_keptBoards, w_t_keptHung, w_t_bodies, w_t_ran, w_t_kind, w_t_number, w_t_tellsV])), (a_t_s, .inl (cyI, 1454, .inl f_t_s))] := hD
    exact W.vret hx hb hr (fun t ht hW => ⟨⟨(y4, i_t_isWrong), rfl, hw, post_mk ht hP hD⟩, hS.F ht⟩) hS.2.2 dX11_must_45 hlocks
  have B21 : ∀ (s1 : Int32) (i_t_spot : Int32) (i_t_isWrong : Int32), WX11_must_21 i_t_end f_t_s s1 i_t_spot i_t_isWrong Q  → ∀ (H : Heap) (locs : List Loc), va_P D vwCl [(a_t, .inr (10, [w_t_thrown, .ref a_t_s, w_t_image, w_t_hasImage, w_t_act, .int i_t_spot, .int i_t_end, .int i_t_isWrong, w_t_open, w_t_readMany, w_t_readSpan, w_t_readSum, w_t_readOdds, w_t_readBank, w_t_readMill, w_t_readLevel, w_t_levels, w_t_boardsNow, w_t_ways, w_t_nexts, w_t_hourNow, w_t_staying, w_t_leftCard, w_t_leftLine, w_t_isMute, w_t_higher, w_t_over, w_t_dry, w_t_truths, w_t_failHours, w_t_failRow, w_t_keptBoards, w_t_keptHung, w_t_bodies, w_t_ran, w_t_kind, w_t_number, w_t_tellsV])), (a_t_s, .inl (cyI, 1454, .inl f_t_s))] H → va_D A [(a_t, .inr (10, [w_t_thrown, .ref a_t_s, w_t_image, w_t_hasImage, w_t_act, .int i_t_spot, .int i_t_end, .int i_t_isWrong, w_t_open, w_t_readMany, w_t_readSpan, w_t_readSum, w_t_readOdds, w_t_readBank, w_t_readMill, w_t_readLevel, w_t_levels, w_t_boardsNow, w_t_ways, w_t_nexts, w_t_hourNow, w_t_staying, w_t_leftCard, w_t_leftLine, w_t_isMute, w_t_higher, w_t_over, w_t_dry, w_t_truths, w_t_failHours, w_t_failRow, w_t_keptBoards, w_t_keptHung, w_t_bodies, w_t_ran, w_t_kind, w_t_number, w_t_tellsV])), (a_t_s, .inl (cyI, 1454, .inl f_t_s))] → va_S A s.heap H locs → ∀ (ls : Array Slot), lv_has ls 2 [(0, .ref a_t)] → W p l e { frames := 1, cells := 0, slots := 0, locals := 20 } s m ([.ref a_t, .int x1] : List Value).toArray below meth c H locs 0 0 (MQ below (va_Qv (fun (u : Int32 × Int32) => Q u.1 u.2) (fun (u : Int32 × Int32) (t : State) => POST D A (SX11_must cyI cyZ cyC a_t a_t_s w_t_thrown w_t_image w_t_hasImage w_t_act w_t_open w_t_readMany w_t_readSpan w_t_readSum w_t_readOdds w_t_readBank w_t_readMill w_t_readLevel w_t_levels w_t_boardsNow w_t_ways w_t_nexts w_t_hourNow w_t_staying w_t_leftCard w_t_leftLine w_t_isMute w_t_higher w_t_over w_t_dry w_t_truths w_t_failHours w_t_failRow w_t_keptBoards w_t_keptHung w_t_bodies w_t_ran w_t_kind w_t_number w_t_tellsV  u.1 i_t_end u.2 f_t_s) t) A) ([.ref a_t, .int x1] : List Value).toArray s 0 0 A) (F0 m 21 ls [.int s1, .ref a_t]) := by
    intro s1 i_t_spot i_t_isWrong hw H locs hP hD hS ls hl
    unfold WX11_must_21 at hw
    have h2 := hw.1
    replace hw := hw.2
    refine va_put (D := D) (ci := 10) (v := .int s1) (ty := .boolean) (C := RX11) (T := TX11) (N := 38) hx hb hts inX11_must_X11 tyX11 tyX11_ok nmX11 hown hK hP hD hS 0 rfl rfl 7 (by decide) (hts _ (List.mem_of_getElem? (i := 1) rfl)) (fun _ h9 => h9) rfl (tyX11_ok 7 (by decide)) (isB_nar h2) (isB_fit h2) (Nat.le_of_ble_eq_true rfl) dX11_must_21 (fun H locs hP hD hS => ?_)
    replace hP : va_P D vwCl [(a_t, .inr (10, [w_t_thrown, .ref a_t_s, w_t_image, w_t_hasImage, w_t_act, .int i_t_spot, .int i_t_end, .int s1, w_t_open, w_t_readMany, w_t_readSpan, w_t_readSum, w_t_readOdds, w_t_readBank, w_t_readMill, w_t_readLevel, w_t_levels, w_t_boardsNow, w_t_ways, w_t_nexts, w_t_hourNow, w_t_staying, w_t_leftCard, w_t_leftLine, w_t_isMute, w_t_higher, w_t_over, w_t_dry, w_t_truths, w_t_failHours, w_t_failRow, w_t_keptBoards, w_t_keptHung, w_t_bodies, w_t_ran, w_t_kind, w_t_number, w_t_tellsV])), (a_t_s, .inl (cyI, 1454, .inl f_t_s))] H := hP
    replace hD : va_D A [(a_t, .inr (10, [w_t_thrown, .ref a_t_s, w_t_image, w_t_hasImage, w_t_act, .int i_t_spot, .int i_t_end, .int s1, w_t_open, w_t_readMany, w_t_readSpan, w_t_readSum, w_t_readOdds, w_t_readBank, w_t_readMill, w_t_readLevel, w_t_levels, w_t_boardsNow, w_t_ways, w_t_nexts, w_t_hourNow, w_t_staying, w_t_leftCard, w_t_leftLine, w_t_isMute, w_t_higher, w_t_over, w_t_dry, w_t_truths, w_t_failHours, w_t_failRow, w_t_keptBoards, w_t_keptHung, w_t_bodies, w_t_ran, w_t_kind, w_t_number, w_t_tellsV])), (a_t_s, .inl (cyI, 1454, .inl f_t_s))] := hD
    refine lv_aload_n hx hb dX11_must_24 rfl (lv_at hl 0 rfl) ?_
    refine lv_dup hx hb dX11_must_25 rfl ?_
    refine va_get (D := D) (ci := 10) (v := .int i_t_spot) (C := RX11) (T := TX11) (N := 38) hx hb hts inX11_must_X11 hown hK hP 0 rfl rfl 5 (by decide) (hts _ (List.mem_of_getElem? (i := 2) rfl)) (fun _ h9 => h9) rfl dX11_must_26 ?_
    refine lv_aload_n hx hb dX11_must_29 rfl (lv_at hl 0 rfl) ?_
    refine va_get (D := D) (ci := 10) (v := .int s1) (C := RX11) (T := TX11) (N := 38) hx hb hts inX11_must_X11 hown hK hP 0 rfl rfl 7 (by decide) (hts _ (List.mem_of_getElem? (i := 1) rfl)) (fun _ h9 => h9) rfl dX11_must_30 ?_
    refine lv_if_eq (tgt := 40) hx hb dX11_must_33 (by decide) (fun c3 => ?_) (fun c3 => ?_)
    · replace hw := hw.1 c3
      refine lv_iconst (v := 1) hx hb dX11_must_40 (by decide) ?_
      exact B41 i_t_spot 1 i_t_spot s1 hw _ _ hP hD hS _ (lv_sub hl [] rfl)
    · replace hw := hw.2 c3
      refine lv_iconst (v := 0) hx hb dX11_must_36 (by decide) ?_
      refine lv_goto (tgt := 41) hx hb dX11_must_37 (by decide) ?_
      exact B41 i_t_spot 0 i_t_spot s1 hw _ _ hP hD hS _ (lv_sub hl [] rfl)
  have B16 : ∀ (i_t_spot : Int32) (i_t_isWrong : Int32), WX11_must_16 i_t_end f_t_s i_t_spot i_t_isWrong Q  → ∀ (H : Heap) (locs : List Loc), va_P D vwCl [(a_t, .inr (10, [w_t_thrown, .ref a_t_s, w_t_image, w_t_hasImage, w_t_act, .int i_t_spot, .int i_t_end, .int i_t_isWrong, w_t_open, w_t_readMany, w_t_readSpan, w_t_readSum, w_t_readOdds, w_t_readBank, w_t_readMill, w_t_readLevel, w_t_levels, w_t_boardsNow, w_t_ways, w_t_nexts, w_t_hourNow, w_t_staying, w_t_leftCard, w_t_leftLine, w_t_isMute, w_t_higher, w_t_over, w_t_dry, w_t_truths, w_t_failHours, w_t_failRow, w_t_keptBoards, w_t_keptHung, w_t_bodies, w_t_ran, w_t_kind, w_t_number, w_t_tellsV])), (a_t_s, .inl (cyI, 1454, .inl f_t_s))] H → va_D A [(a_t, .inr (10, [w_t_thrown, .ref a_t_s, w_t_image, w_t_hasImage, w_t_act, .int i_t_spot, .int i_t_end, .int i_t_isWrong, w_t_open, w_t_readMany, w_t_readSpan, w_t_readSum, w_t_readOdds, w_t_readBank, w_t_readMill, w_t_readLevel, w_t_levels, w_t_boardsNow, w_t_ways, w_t_nexts, w_t_hourNow, w_t_staying, w_t_leftCard, w_t_leftLine, w_t_isMute, w_t_higher, w_t_over, w_t_dry, w_t_truths, w_t_failHours, w_t_failRow, w_t_keptBoards, w_t_keptHung, w_t_bodies, w_t_ran, w_t_kind, w_t_number, w_t_tellsV])), (a_t_s, .inl (cyI, 1454, .inl f_t_s))] → va_S A s.heap H locs → ∀ (ls : Array Slot), lv_has ls 2 [(0, .ref a_t)] → W p l e { frames := 1, cells := 0, slots := 0, locals := 20 } s m ([.ref a_t, .int x1] : List Value).toArray below meth c H locs 0 0 (MQ below (va_Qv (fun (u : Int32 × Int32) => Q u.1 u.2) (fun (u : Int32 × Int32) (t : State) => POST D A (SX11_must cyI cyZ cyC a_t a_t_s w_t_thrown w_t_image w_t_hasImage w_t_act w_t_open w_t_readMany w_t_readSpan w_t_readSum w_t_readOdds w_t_readBank w_t_readMill w_t_readLevel w_t_levels w_t_boardsNow w_t_ways w_t_nexts w_t_hourNow w_t_staying w_t_leftCard w_t_leftLine w_t_isMute w_t_higher w_t_over w_t_dry w_t_truths w_t_failHours w_t_failRow w_t_keptBoards w_t_keptHung w_t_bodies w_t_ran w_t_kind w_t_number w_t_tellsV  u.1 i_t_end u.2 f_t_s) t) A) ([.ref a_t, .int x1] : List Value).toArray s 0 0 A) (F0 m 16 ls [.ref a_t]) := by
    intro i_t_spot i_t_isWrong hw H locs hP hD hS ls hl
    unfold WX11_must_16 at hw
    refine lv_iconst (v := 1) hx hb dX11_must_16 (by decide) ?_
    refine lv_goto (tgt := 21) hx hb dX11_must_17 (by decide) ?_
    exact B21 1 i_t_spot i_t_isWrong hw _ _ hP hD hS _ (lv_sub hl [0] rfl)
  unfold WX11_must at hw
  refine lv_aload_n hx hb dX11_must_0 rfl (lv_at hl 0 rfl) ?_
  refine lv_aload_n hx hb dX11_must_1 rfl (lv_at hl 0 rfl) ?_
  refine va_get (D := D) (ci := 10) (v := .int i_t_isWrong) (C := RX11) (T := TX11) (N := 38) hx hb hts inX11_must_X11 hown hK hP 0 rfl rfl 7 (by decide) (hts _ (List.mem_of_getElem? (i := 1) rfl)) (fun _ h9 => h9) rfl dX11_must_2 ?_
  refine lv_if_ne (tgt := 16) hx hb dX11_must_5 (by decide) (fun c1 => ?_) (fun c1 => ?_)
  · replace hw := hw.2 c1
    exact B16 i_t_spot i_t_isWrong hw _ _ hP hD hS _ (lv_sub hl [0] rfl)
  · replace hw := hw.1 c1
    refine lv_aload_n hx hb dX11_must_8 rfl (lv_at hl 0 rfl) ?_
    obtain ⟨QK, eQ, hq⟩ := genq (P := WX11_here i_t_spot i_t_end f_t_s) hw
    clear hw
    have hPc := hP.sub (ws' := [(a_t, .inr (10, [w_t_thrown, .ref a_t_s, w_t_image, w_t_hasImage, w_t_act, .int i_t_spot, .int i_t_end, .int i_t_isWrong, w_t_open, w_t_readMany, w_t_readSpan, w_t_readSum, w_t_readOdds, w_t_readBank, w_t_readMill, w_t_readLevel, w_t_levels, w_t_boardsNow, w_t_ways, w_t_nexts, w_t_hourNow, w_t_staying, w_t_leftCard, w_t_leftLine, w_t_isMute, w_t_higher, w_t_over, w_t_dry, w_t_truths, w_t_failHours, w_t_failRow, w_t_keptBoards, w_t_keptHung, w_t_bodies, w_t_ran, w_t_kind, w_t_number, w_t_tellsV])), (a_t_s, .inl (cyI, 1454, .inl f_t_s))]) [0, 1] rfl
    have hDc := hD.sub (ws' := [(a_t, .inr (10, [w_t_thrown, .ref a_t_s, w_t_image, w_t_hasImage, w_t_act, .int i_t_spot, .int i_t_end, .int i_t_isWrong, w_t_open, w_t_readMany, w_t_readSpan, w_t_readSum, w_t_readOdds, w_t_readBank, w_t_readMill, w_t_readLevel, w_t_levels, w_t_boardsNow, w_t_ways, w_t_nexts, w_t_hourNow, w_t_staying, w_t_leftCard, w_t_leftLine, w_t_isMute, w_t_higher, w_t_over, w_t_dry, w_t_truths, w_t_failHours, w_t_failRow, w_t_keptBoards, w_t_keptHung, w_t_bodies, w_t_ran, w_t_kind, w_t_number, w_t_tellsV])), (a_t_s, .inl (cyI, 1454, .inl f_t_s))]) [0, 1] (by decide) rfl
    have hFc := va_free (wc := [(a_t, .inr (10, [w_t_thrown, .ref a_t_s, w_t_image, w_t_hasImage, w_t_act, .int i_t_spot, .int i_t_end, .int i_t_isWrong, w_t_open, w_t_readMany, w_t_readSpan, w_t_readSum, w_t_readOdds, w_t_readBank, w_t_readMill, w_t_readLevel, w_t_levels, w_t_boardsNow, w_t_ways, w_t_nexts, w_t_hourNow, w_t_staying, w_t_leftCard, w_t_leftLine, w_t_isMute, w_t_higher, w_t_over, w_t_dry, w_t_truths, w_t_failHours, w_t_failRow, w_t_keptBoards, w_t_keptHung, w_t_bodies, w_t_ran, w_t_kind, w_t_number, w_t_tellsV])), (a_t_s, .inl (cyI, 1454, .inl f_t_s))]) hD hS hA [0, 1] rfl
    refine va_calli (va_runV (As := []) (rest := [.ref a_t]) ⟨hx, hb, hml, hown, hts⟩ (MX11_here l D cyI cyZ cyC ro ce cin ad a_t a_t_s  (w_t_thrown) (w_t_image) (w_t_hasImage) (w_t_act) (.int i_t_isWrong) (w_t_open) (w_t_readMany) (w_t_readSpan) (w_t_readSum) (w_t_readOdds) (w_t_readBank) (w_t_readMill) (w_t_readLevel) (w_t_levels) (w_t_boardsNow) (w_t_ways) (w_t_nexts) (w_t_hourNow) (w_t_staying) (w_t_leftCard) (w_t_leftLine) (w_t_isMute) (w_t_higher) (w_t_over) (w_t_dry) (w_t_truths) (w_t_failHours) (w_t_failRow) (w_t_keptBoards) (w_t_keptHung) (w_t_bodies) (w_t_ran) (w_t_kind) (w_t_number) (w_t_tellsV) H.size i_t_spot i_t_end f_t_s QK  hq) (cwV 0 hts gX11_must_X11_here rfl rfl rfl ⟨rfl, dmX11_here⟩ ⟨Nat.le_of_ble_eq_true rfl, Nat.le_of_ble_eq_true rfl⟩) ⟨pre_bl, va_recv hK hPc (ci := 10) (q0 := 0) rfl rfl, fun U hU hW => ⟨rfl, pre_of hX hS hK hPc hDc hFc hU hW⟩⟩ rfl rfl hl.1 rfl (lv_room (Nat.le_of_ble_eq_true rfl)) dX11_must_9 ⟨Nat.zero_le _, Nat.zero_le _⟩) hS (fun q _ h => hFc q h) hFc (fun r5 u t H1 locs ht hvm hw hB hz1 hk1 hS => ?_)
    replace hw : QK r5 := hw
    clear hq
    subst eQ
    obtain ⟨hP1, hD1⟩ := hB
    rw [ht] at hP1
    obtain ⟨hP, hD⟩ := va_join (wr := []) (w1 := [(a_t, .inr (10, [w_t_thrown, .ref a_t_s, w_t_image, w_t_hasImage, w_t_act, .int i_t_spot, .int i_t_end, .int i_t_isWrong, w_t_open, w_t_readMany, w_t_readSpan, w_t_readSum, w_t_readOdds, w_t_readBank, w_t_readMill, w_t_readLevel, w_t_levels, w_t_boardsNow, w_t_ways, w_t_nexts, w_t_hourNow, w_t_staying, w_t_leftCard, w_t_leftLine, w_t_isMute, w_t_higher, w_t_over, w_t_dry, w_t_truths, w_t_failHours, w_t_failRow, w_t_keptBoards, w_t_keptHung, w_t_bodies, w_t_ran, w_t_kind, w_t_number, w_t_tellsV])), (a_t_s, .inl (cyI, 1454, .inl f_t_s))]) hP hD [0, 1] [] rfl rfl (by decide) (by decide) hk1 hFc hP1 hD1
    clear hPc hDc hFc hk1 hz1 hP1 hD1 ht hvm
    generalize H1 = H at hP hS ⊢
    replace hP : va_P D vwCl [(a_t, .inr (10, [w_t_thrown, .ref a_t_s, w_t_image, w_t_hasImage, w_t_act, .int i_t_spot, .int i_t_end, .int i_t_isWrong, w_t_open, w_t_readMany, w_t_readSpan, w_t_readSum, w_t_readOdds, w_t_readBank, w_t_readMill, w_t_readLevel, w_t_levels, w_t_boardsNow, w_t_ways, w_t_nexts, w_t_hourNow, w_t_staying, w_t_leftCard, w_t_leftLine, w_t_isMute, w_t_higher, w_t_over, w_t_dry, w_t_truths, w_t_failHours, w_t_failRow, w_t_keptBoards, w_t_keptHung, w_t_bodies, w_t_ran, w_t_kind, w_t_number, w_t_tellsV])), (a_t_s, .inl (cyI, 1454, .inl f_t_s))] H := hP
    replace hD : va_D A [(a_t, .inr (10, [w_t_thrown, .ref a_t_s, w_t_image, w_t_hasImage, w_t_act, .int i_t_spot, .int i_t_end, .int i_t_isWrong, w_t_open, w_t_readMany, w_t_readSpan, w_t_readSum, w_t_readOdds, w_t_readBank, w_t_readMill, w_t_readLevel, w_t_levels, w_t_boardsNow, w_t_ways, w_t_nexts, w_t_hourNow, w_t_staying, w_t_leftCard, w_t_leftLine, w_t_isMute, w_t_higher, w_t_over, w_t_dry, w_t_truths, w_t_failHours, w_t_failRow, w_t_keptBoards, w_t_keptHung, w_t_bodies, w_t_ran, w_t_kind, w_t_number, w_t_tellsV])), (a_t_s, .inl (cyI, 1454, .inl f_t_s))] := hD
    refine lv_iload_n hx hb dX11_must_12 rfl (lv_at hl 1 rfl) ?_
    refine lv_icmp_eq (tgt := 20) hx hb dX11_must_13 (by decide) (fun c6 => ?_) (fun c6 => ?_)
    · replace hw := hw.1 c6
      refine lv_iconst (v := 0) hx hb dX11_must_20 (by decide) ?_
      exact B21 0 i_t_spot i_t_isWrong hw _ _ hP hD hS _ (lv_sub hl [0] rfl)
    · replace hw := hw.2 c6
      exact B16 i_t_spot i_t_isWrong hw _ _ hP hD hS _ (lv_sub hl [0] rfl)
set_option maxHeartbeats 8000000 in
set_option maxRecDepth 100000 in
theorem MX0_coder_7d493 (l : Launch) (D : va_G) (cyI cyZ cyC : ClassId) (ro : va_W) (ce : Nat → CT) (cin : Nat → Prop) (ad : AD) (sz : Nat) (z0 : Nat) (Q : Int32 → Prop)  (hz : z0 < 9) (hw : WX0_coder_7d493 z0 Q) : Met l yJ0_coder_7d493 wsJ0_coder_7d493 ({ frames := 0, cells := 0, slots := 0, locals := 0 }) (va_Pc [.ref (ad.1 z0)] (PRE D cyI cyZ cyC ro ce cin ad (SX0_coder_7d493 cyI cyZ cyC) sz)) (va_Qi (fun (r : Int32) (_ : Unit) => Q r) (fun (_ : Unit) (t : State) => POST D (va_A (SX0_coder_7d493 cyI cyZ cyC) sz) (SX0_coder_7d493 cyI cyZ cyC) t) (va_A (SX0_coder_7d493 cyI cyZ cyC) sz)) 0 0 (va_A (SX0_coder_7d493 cyI cyZ cyC) sz) := by
  refine va_MetF (cc := cJ0_coder_7d493) (maxL := 1) (ret := (some .byte)) (by decide +kernel) rfl ?_
  intro p e s m args below meth c s₁ B hml hv
  obtain ⟨rfl, hsz, hP, hK, hD0, hX⟩ := hv
  have hx := B.exec
  have hb := B.bytes
  have hr := B.returns
  have hts := atoms_spec (ws := wsJ0_coder_7d493) B.pre
  have hown : s.vm.findClass RJ0 = some m.cls := findClass_of_methodNamed B.named
  have hlocks := B.notSynchronized
  clear B
  subst hsz
  have hD := hD0.self (sz := s.heap.size)
  clear hD0
  generalize hAe : va_A (SX0_coder_7d493 cyI cyZ cyC) s.heap.size = A at hD hX ⊢
  have hA : ∀ q : Nat, s.heap.size ≤ q → A q := fun q h => by rw [← hAe]; exact Or.inr h
  clear hAe
  obtain ⟨H, hH⟩ : ∃ H, H = s.heap := ⟨_, rfl⟩
  rw [← hH] at hP ⊢
  have hS : va_S A s.heap H [] := by rw [hH]; exact va_S.rf
  clear hH
  replace hP : va_P D vwCl [] H := hP
  replace hD : va_D A [] := hD
  have hl := lv_entry ([.ref (ad.1 z0)]) (n := 1) (Nat.le_of_ble_eq_true rfl)
  rw [lg_entry_eq]
  generalize (lg_sl ([.ref (ad.1 z0)]) ++ List.replicate (1 - (lg_sl ([.ref (ad.1 z0)])).length) Slot.unset).toArray = ls at hl ⊢
  replace hl : lv_has ls 1 [(0, .ref (ad.1 z0))] := hl
  unfold WX0_coder_7d493 at hw
  refine va_gets (v := .int 1) hx hb hX.env.2.2.2.2.2.1 hS hown (hts _ (List.mem_of_getElem? (i := 1) rfl)) (fun _ h9 => h9) dJ0_coder_7d493_0 ?_
  refine lv_if_eq (tgt := 13) hx hb dJ0_coder_7d493_3 (by decide) (fun c1 => ?_) (fun c1 => ?_)
  · exact absurd c1 (show ¬ (1 : Int32) = 0 by decide)
  · refine lv_aload_n hx hb dJ0_coder_7d493_6 rfl (lv_at hl 0 rfl) ?_
    refine vk_getf (v := .int 0) hx hb (hX.env.1.1 z0 hz).2.1 hS hown (hts _ (List.mem_of_getElem? (i := 2) rfl)) (fun _ h9 => h9) dJ0_coder_7d493_7 ?_
    refine lv_goto (tgt := 14) hx hb dJ0_coder_7d493_10 (by decide) ?_
    exact W.zret (v := 0) hx hb hr rfl (fun t ht hW => ⟨⟨0, (), rfl, hw, post_mk ht hP hD⟩, hS.F ht⟩) hS.2.2 dJ0_coder_7d493_14 hlocks
set_option maxHeartbeats 8000000 in
set_option maxRecDepth 100000 in
theorem MX0_length_8abf5 (l : Launch) (D : va_G) (cyI cyZ cyC : ClassId) (ro : va_W) (ce : Nat → CT) (cin : Nat → Prop) (ad : AD) (sz : Nat) (z0 : Nat) (Q : Int32 → Prop)  (hz : z0 < 9) (hw : WX0_length_8abf5 z0 Q) : Met l yJ0_length_8abf5 wsJ0_length_8abf5 ({ frames := 1, cells := 0, slots := 0, locals := 20 }) (va_Pc [.ref (ad.1 z0)] (PRE D cyI cyZ cyC ro ce cin ad (SX0_length_8abf5 cyI cyZ cyC) sz)) (va_Qi (fun (r : Int32) (_ : Unit) => Q r) (fun (_ : Unit) (t : State) => POST D (va_A (SX0_length_8abf5 cyI cyZ cyC) sz) (SX0_length_8abf5 cyI cyZ cyC) t) (va_A (SX0_length_8abf5 cyI cyZ cyC) sz)) 0 0 (va_A (SX0_length_8abf5 cyI cyZ cyC) sz) := by
  refine va_MetF (cc := cJ0_length_8abf5) (maxL := 1) (ret := (some .int)) (by decide +kernel) rfl ?_
  intro p e s m args below meth c s₁ B hml hv
  obtain ⟨rfl, hsz, hP, hK, hD0, hX⟩ := hv
  have hx := B.exec
  have hb := B.bytes
  have hr := B.returns
  have hts := atoms_spec (ws := wsJ0_length_8abf5) B.pre
  have hown : s.vm.findClass RJ0 = some m.cls := findClass_of_methodNamed B.named
  have hlocks := B.notSynchronized
  clear B
  subst hsz
  have hD := hD0.self (sz := s.heap.size)
  clear hD0
  generalize hAe : va_A (SX0_length_8abf5 cyI cyZ cyC) s.heap.size = A at hD hX ⊢
  have hA : ∀ q : Nat, s.heap.size ≤ q → A q := fun q h => by rw [← hAe]; exact Or.inr h
  clear hAe
  obtain ⟨H, hH⟩ : ∃ H, H = s.heap := ⟨_, rfl⟩
  rw [← hH] at hP ⊢
  have hS : va_S A s.heap H [] := by rw [hH]; exact va_S.rf
  clear hH
  replace hP : va_P D vwCl [] H := hP
  replace hD : va_D A [] := hD
  have hl := lv_entry ([.ref (ad.1 z0)]) (n := 1) (Nat.le_of_ble_eq_true rfl)
  rw [lg_entry_eq]
  generalize (lg_sl ([.ref (ad.1 z0)]) ++ List.replicate (1 - (lg_sl ([.ref (ad.1 z0)])).length) Slot.unset).toArray = ls at hl ⊢
  replace hl : lv_has ls 1 [(0, .ref (ad.1 z0))] := hl
  unfold WX0_length_8abf5 at hw
  refine lv_aload_n hx hb dJ0_length_8abf5_0 rfl (lv_at hl 0 rfl) ?_
  refine vk_getf (v := .ref (ad.2.1 z0)) hx hb (hX.env.1.1 z0 hz).2.2.1 hS hown (hts _ (List.mem_of_getElem? (i := 1) rfl)) (fun _ h9 => h9) dJ0_length_8abf5_1 ?_
  refine va_tlen (v := nI (lenJS.getD z0 0)) hx hb (hX.env.1.1 z0 hz).2.2.2 hS rfl dJ0_length_8abf5_4 ?_
  refine lv_aload_n hx hb dJ0_length_8abf5_5 rfl (lv_at hl 0 rfl) ?_
  obtain ⟨QK, eQ, hq⟩ := genq (P := WX0_coder_7d493 z0) hw
  clear hw
  have hPc := hP.sub (ws' := []) [] rfl
  have hDc := hD.sub (ws' := []) [] (by decide) rfl
  have hFc := va_free (wc := []) hD hS hA [] rfl
  refine va_calli (va_runV (As := []) (rest := [.int (nI (lenJS.getD z0 0))]) ⟨hx, hb, hml, hown, hts⟩ (MX0_coder_7d493 l D cyI cyZ cyC ro ce cin ad    H.size z0 QK hz hq) (cwV 0 hts gJ0_length_8abf5_J0_coder_7d493 rfl rfl rfl ⟨rfl, dmJ0_coder_7d493⟩ ⟨Nat.le_of_ble_eq_true rfl, Nat.le_of_ble_eq_true rfl⟩) ⟨pre_bl, vk_recv hX.env.1 hz hS, fun U hU hW => ⟨rfl, pre_of hX hS hK hPc hDc hFc hU hW⟩⟩ rfl rfl hl.1 rfl (lv_room (Nat.le_of_ble_eq_true rfl)) dJ0_length_8abf5_6 ⟨Nat.zero_le _, Nat.zero_le _⟩) hS (fun q _ h => hFc q h) hFc (fun r1 u t H1 locs ht hvm hw hB hz1 hk1 hS => ?_)
  replace hw : QK r1 := hw
  clear hq
  subst eQ
  obtain ⟨hP1, hD1⟩ := hB
  rw [ht] at hP1
  obtain ⟨hP, hD⟩ := va_join (wr := []) (w1 := []) hP hD [] [] rfl rfl (by decide) (by decide) hk1 hFc hP1 hD1
  clear hPc hDc hFc hk1 hz1 hP1 hD1 ht hvm
  generalize H1 = H at hP hS ⊢
  replace hP : va_P D vwCl [] H := hP
  replace hD : va_D A [] := hD
  refine lv_ishr hx hb dJ0_length_8abf5_9 ?_
  exact W.iret (v := (nI (lenJS.getD z0 0)) >>> (r1 &&& 31)) hx hb hr (fun t ht hW => ⟨⟨(nI (lenJS.getD z0 0)) >>> (r1 &&& 31), (), rfl, hw, post_mk ht hP hD⟩, hS.F ht⟩) hS.2.2 dJ0_length_8abf5_10 hlocks
set_option maxHeartbeats 8000000 in
set_option maxRecDepth 100000 in
theorem MX0_isLatin1_aae02 (l : Launch) (D : va_G) (cyI cyZ cyC : ClassId) (ro : va_W) (ce : Nat → CT) (cin : Nat → Prop) (ad : AD) (sz : Nat) (z0 : Nat) (Q : Int32 → Prop)  (hz : z0 < 9) (hw : WX0_isLatin1_aae02 z0 Q) : Met l yJ0_isLatin1_aae02 wsJ0_isLatin1_aae02 ({ frames := 0, cells := 0, slots := 0, locals := 0 }) (va_Pc [.ref (ad.1 z0)] (PRE D cyI cyZ cyC ro ce cin ad (SX0_isLatin1_aae02 cyI cyZ cyC) sz)) (va_Qi (fun (r : Int32) (_ : Unit) => Q r) (fun (_ : Unit) (t : State) => POST D (va_A (SX0_isLatin1_aae02 cyI cyZ cyC) sz) (SX0_isLatin1_aae02 cyI cyZ cyC) t) (va_A (SX0_isLatin1_aae02 cyI cyZ cyC) sz)) 0 0 (va_A (SX0_isLatin1_aae02 cyI cyZ cyC) sz) := by
  refine va_MetF (cc := cJ0_isLatin1_aae02) (maxL := 1) (ret := (some .boolean)) (by decide +kernel) rfl ?_
  intro p e s m args below meth c s₁ B hml hv
  obtain ⟨rfl, hsz, hP, hK, hD0, hX⟩ := hv
  have hx := B.exec
  have hb := B.bytes
  have hr := B.returns
  have hts := atoms_spec (ws := wsJ0_isLatin1_aae02) B.pre
  have hown : s.vm.findClass RJ0 = some m.cls := findClass_of_methodNamed B.named
  have hlocks := B.notSynchronized
  clear B
  subst hsz
  have hD := hD0.self (sz := s.heap.size)
  clear hD0
  generalize hAe : va_A (SX0_isLatin1_aae02 cyI cyZ cyC) s.heap.size = A at hD hX ⊢
  have hA : ∀ q : Nat, s.heap.size ≤ q → A q := fun q h => by rw [← hAe]; exact Or.inr h
  clear hAe
  obtain ⟨H, hH⟩ : ∃ H, H = s.heap := ⟨_, rfl⟩
  rw [← hH] at hP ⊢
  have hS : va_S A s.heap H [] := by rw [hH]; exact va_S.rf
  clear hH
  replace hP : va_P D vwCl [] H := hP
  replace hD : va_D A [] := hD
  have hl := lv_entry ([.ref (ad.1 z0)]) (n := 1) (Nat.le_of_ble_eq_true rfl)
  rw [lg_entry_eq]
  generalize (lg_sl ([.ref (ad.1 z0)]) ++ List.replicate (1 - (lg_sl ([.ref (ad.1 z0)])).length) Slot.unset).toArray = ls at hl ⊢
  replace hl : lv_has ls 1 [(0, .ref (ad.1 z0))] := hl
  unfold WX0_isLatin1_aae02 at hw
  refine va_gets (v := .int 1) hx hb hX.env.2.2.2.2.2.1 hS hown (hts _ (List.mem_of_getElem? (i := 1) rfl)) (fun _ h9 => h9) dJ0_isLatin1_aae02_0 ?_
  refine lv_if_eq (tgt := 17) hx hb dJ0_isLatin1_aae02_3 (by decide) (fun c1 => ?_) (fun c1 => ?_)
  · exact absurd c1 (show ¬ (1 : Int32) = 0 by decide)
  · refine lv_aload_n hx hb dJ0_isLatin1_aae02_6 rfl (lv_at hl 0 rfl) ?_
    refine vk_getf (v := .int 0) hx hb (hX.env.1.1 z0 hz).2.1 hS hown (hts _ (List.mem_of_getElem? (i := 2) rfl)) (fun _ h9 => h9) dJ0_isLatin1_aae02_7 ?_
    refine lv_if_ne (tgt := 17) hx hb dJ0_isLatin1_aae02_10 (by decide) (fun c2 => ?_) (fun c2 => ?_)
    · exact absurd (show (0 : Int32) = 0 by decide) c2
    · refine lv_iconst (v := 1) hx hb dJ0_isLatin1_aae02_13 (by decide) ?_
      refine lv_goto (tgt := 18) hx hb dJ0_isLatin1_aae02_14 (by decide) ?_
      exact W.zret (v := 1) hx hb hr rfl (fun t ht hW => ⟨⟨1, (), rfl, hw, post_mk ht hP hD⟩, hS.F ht⟩) hS.2.2 dJ0_isLatin1_aae02_18 hlocks
set_option maxHeartbeats 8000000 in
set_option maxRecDepth 100000 in
theorem MX2_length_9d52b (l : Launch) (D : va_G) (cyI cyZ cyC : ClassId) (ro : va_W) (ce : Nat → CT) (cin : Nat → Prop) (ad : AD) (sz : Nat) (z0 : Nat) (Q : Int32 → Prop)  (hz : z0 < 9) (hw : WX2_length_9d52b z0 Q) : Met l yJ2_length_9d52b wsJ2_length_9d52b ({ frames := 0, cells := 0, slots := 0, locals := 0 }) (va_Pc [.ref (ad.2.1 z0)] (PRE D cyI cyZ cyC ro ce cin ad (SX2_length_9d52b cyI cyZ cyC) sz)) (va_Qi (fun (r : Int32) (_ : Unit) => Q r) (fun (_ : Unit) (t : State) => POST D (va_A (SX2_length_9d52b cyI cyZ cyC) sz) (SX2_length_9d52b cyI cyZ cyC) t) (va_A (SX2_length_9d52b cyI cyZ cyC) sz)) 0 0 (va_A (SX2_length_9d52b cyI cyZ cyC) sz) := by
  refine va_MetF (cc := cJ2_length_9d52b) (maxL := 1) (ret := (some .int)) (by decide +kernel) rfl ?_
  intro p e s m args below meth c s₁ B hml hv
  obtain ⟨rfl, hsz, hP, hK, hD0, hX⟩ := hv
  have hx := B.exec
  have hb := B.bytes
  have hr := B.returns
  have hts := atoms_spec (ws := wsJ2_length_9d52b) B.pre
  have hown : s.vm.findClass RJ2 = some m.cls := findClass_of_methodNamed B.named
  have hlocks := B.notSynchronized
  clear B
  subst hsz
  have hD := hD0.self (sz := s.heap.size)
  clear hD0
  generalize hAe : va_A (SX2_length_9d52b cyI cyZ cyC) s.heap.size = A at hD hX ⊢
  have hA : ∀ q : Nat, s.heap.size ≤ q → A q := fun q h => by rw [← hAe]; exact Or.inr h
  clear hAe
  obtain ⟨H, hH⟩ : ∃ H, H = s.heap := ⟨_, rfl⟩
  rw [← hH] at hP ⊢
  have hS : va_S A s.heap H [] := by rw [hH]; exact va_S.rf
  clear hH
  replace hP : va_P D vwCl [] H := hP
  replace hD : va_D A [] := hD
  have hl := lv_entry ([.ref (ad.2.1 z0)]) (n := 1) (Nat.le_of_ble_eq_true rfl)
  rw [lg_entry_eq]
  generalize (lg_sl ([.ref (ad.2.1 z0)]) ++ List.replicate (1 - (lg_sl ([.ref (ad.2.1 z0)])).length) Slot.unset).toArray = ls at hl ⊢
  replace hl : lv_has ls 1 [(0, .ref (ad.2.1 z0))] := hl
  unfold WX2_length_9d52b at hw
  refine lv_aload_n hx hb dJ2_length_9d52b_0 rfl (lv_at hl 0 rfl) ?_
  refine va_tlen (v := nI (lenJS.getD z0 0)) hx hb (hX.env.1.1 z0 hz).2.2.2 hS rfl dJ2_length_9d52b_1 ?_
  refine lv_iconst (v := 1) hx hb dJ2_length_9d52b_2 (by decide) ?_
  refine lv_ishr hx hb dJ2_length_9d52b_3 ?_
  exact W.iret (v := (nI (lenJS.getD z0 0)) >>> ((1 : Int32) &&& 31)) hx hb hr (fun t ht hW => ⟨⟨(nI (lenJS.getD z0 0)) >>> ((1 : Int32) &&& 31), (), rfl, hw, post_mk ht hP hD⟩, hS.F ht⟩) hS.2.2 dJ2_length_9d52b_4 hlocks
set_option maxHeartbeats 8000000 in
set_option maxRecDepth 100000 in
theorem MX3_checkIndex_8e157 (l : Launch) (D : va_G) (cyI cyZ cyC : ClassId) (ro : va_W) (ce : Nat → CT) (cin : Nat → Prop) (ad : AD) (o2 : Option Nat) (sz : Nat) (x0 : Int32) (x1 : Int32) (Q : Int32 → Prop)  (hw : WX3_checkIndex_8e157 x0 x1 Q) : Met l yJ3_checkIndex_8e157 wsJ3_checkIndex_8e157 ({ frames := 0, cells := 0, slots := 0, locals := 0 }) (va_Pc [.int x0, .int x1, va_rf o2] (PRE D cyI cyZ cyC ro ce cin ad (SX3_checkIndex_8e157 cyI cyZ cyC) sz)) (va_Qi (fun (r : Int32) (_ : Unit) => Q r) (fun (_ : Unit) (t : State) => POST D (va_A (SX3_checkIndex_8e157 cyI cyZ cyC) sz) (SX3_checkIndex_8e157 cyI cyZ cyC) t) (va_A (SX3_checkIndex_8e157 cyI cyZ cyC) sz)) 0 0 (va_A (SX3_checkIndex_8e157 cyI cyZ cyC) sz) := by
  cases o2 with
  | none =>
    refine va_MetF (cc := cJ3_checkIndex_8e157) (maxL := 3) (ret := (some .int)) (by decide +kernel) rfl ?_
    intro p e s m args below meth c s₁ B hml hv
    obtain ⟨rfl, hsz, hP, hK, hD0, hX⟩ := hv
    have hx := B.exec
    have hb := B.bytes
    have hr := B.returns
    have hts := atoms_spec (ws := wsJ3_checkIndex_8e157) B.pre
    have hown : s.vm.findClass RJ3 = some m.cls := findClass_of_methodNamed B.named
    have hlocks := B.notSynchronized
    clear B
    subst hsz
    have hD := hD0.self (sz := s.heap.size)
    clear hD0
    generalize hAe : va_A (SX3_checkIndex_8e157 cyI cyZ cyC) s.heap.size = A at hD hX ⊢
    have hA : ∀ q : Nat, s.heap.size ≤ q → A q := fun q h => by rw [← hAe]; exact Or.inr h
    clear hAe
    obtain ⟨H, hH⟩ : ∃ H, H = s.heap := ⟨_, rfl⟩
    rw [← hH] at hP ⊢
    have hS : va_S A s.heap H [] := by rw [hH]; exact va_S.rf
    clear hH
    replace hP : va_P D vwCl [] H := hP
    replace hD : va_D A [] := hD
    have hl := lv_entry ([.int x0, .int x1, .null]) (n := 3) (Nat.le_of_ble_eq_true rfl)
    rw [lg_entry_eq]
    rw [show va_rf none = .null from rfl]
    generalize (lg_sl ([.int x0, .int x1, .null]) ++ List.replicate (3 - (lg_sl ([.int x0, .int x1, .null])).length) Slot.unset).toArray = ls at hl ⊢
    replace hl : lv_has ls 3 [(0, .int x0), (1, .int x1), (2, .null)] := hl
    have B9 : WX3_checkIndex_8e157_9 x0 x1  Q  → ∀ (H : Heap) (locs : List Loc), va_P D vwCl [] H → va_D A [] → va_S A s.heap H locs → ∀ (ls : Array Slot), lv_has ls 3 [(0, .int x0), (1, .int x1), (2, .null)] → W p l e { frames := 0, cells := 0, slots := 0, locals := 0 } s m ([.int x0, .int x1, .null] : List Value).toArray below meth c H locs 0 0 (MQ below (va_Qi (fun (r : Int32) (_ : Unit) => Q r) (fun (_ : Unit) (t : State) => POST D A (SX3_checkIndex_8e157 cyI cyZ cyC) t) A) ([.int x0, .int x1, .null] : List Value).toArray s 0 0 A) (F0 m 9 ls []) := by
      intro  hw H locs hP hD hS ls hl
      unfold WX3_checkIndex_8e157_9 at hw
      exact hw.elim
    unfold WX3_checkIndex_8e157 at hw
    refine lv_iload_n hx hb dJ3_checkIndex_8e157_0 rfl (lv_at hl 0 rfl) ?_
    refine lv_if_lt (tgt := 9) hx hb dJ3_checkIndex_8e157_1 (by decide) (fun c1 => ?_) (fun c1 => ?_)
    · replace hw := hw.1 c1
      exact B9  hw _ _ hP hD hS _ (lv_sub hl [0, 1, 2] rfl)
    · replace hw := hw.2 c1
      refine lv_iload_n hx hb dJ3_checkIndex_8e157_4 rfl (lv_at hl 0 rfl) ?_
      refine lv_iload_n hx hb dJ3_checkIndex_8e157_5 rfl (lv_at hl 1 rfl) ?_
      refine lv_icmp_lt (tgt := 16) hx hb dJ3_checkIndex_8e157_6 (by decide) (fun c2 => ?_) (fun c2 => ?_)
      · replace hw := hw.1 c2
        refine lv_iload_n hx hb dJ3_checkIndex_8e157_16 rfl (lv_at hl 0 rfl) ?_
        exact W.iret (v := x0) hx hb hr (fun t ht hW => ⟨⟨x0, (), rfl, hw, post_mk ht hP hD⟩, hS.F ht⟩) hS.2.2 dJ3_checkIndex_8e157_17 hlocks
      · replace hw := hw.2 c2
        exact B9  hw _ _ hP hD hS _ (lv_sub hl [0, 1, 2] rfl)
  | some o2 =>
    refine va_MetF (cc := cJ3_checkIndex_8e157) (maxL := 3) (ret := (some .int)) (by decide +kernel) rfl ?_
    intro p e s m args below meth c s₁ B hml hv
    obtain ⟨rfl, hsz, hP, hK, hD0, hX⟩ := hv
    have hx := B.exec
    have hb := B.bytes
    have hr := B.returns
    have hts := atoms_spec (ws := wsJ3_checkIndex_8e157) B.pre
    have hown : s.vm.findClass RJ3 = some m.cls := findClass_of_methodNamed B.named
    have hlocks := B.notSynchronized
    clear B
    subst hsz
    have hD := hD0.self (sz := s.heap.size)
    clear hD0
    generalize hAe : va_A (SX3_checkIndex_8e157 cyI cyZ cyC) s.heap.size = A at hD hX ⊢
    have hA : ∀ q : Nat, s.heap.size ≤ q → A q := fun q h => by rw [← hAe]; exact Or.inr h
    clear hAe
    obtain ⟨H, hH⟩ : ∃ H, H = s.heap := ⟨_, rfl⟩
    rw [← hH] at hP ⊢
    have hS : va_S A s.heap H [] := by rw [hH]; exact va_S.rf
    clear hH
    replace hP : va_P D vwCl [] H := hP
    replace hD : va_D A [] := hD
    have hl := lv_entry ([.int x0, .int x1, .ref o2]) (n := 3) (Nat.le_of_ble_eq_true rfl)
    rw [lg_entry_eq]
    rw [show va_rf (some o2) = .ref o2 from rfl]
    generalize (lg_sl ([.int x0, .int x1, .ref o2]) ++ List.replicate (3 - (lg_sl ([.int x0, .int x1, .ref o2])).length) Slot.unset).toArray = ls at hl ⊢
    replace hl : lv_has ls 3 [(0, .int x0), (1, .int x1), (2, .ref o2)] := hl
    have B9 : WX3_checkIndex_8e157_9 x0 x1  Q  → ∀ (H : Heap) (locs : List Loc), va_P D vwCl [] H → va_D A [] → va_S A s.heap H locs → ∀ (ls : Array Slot), lv_has ls 3 [(0, .int x0), (1, .int x1), (2, .ref o2)] → W p l e { frames := 0, cells := 0, slots := 0, locals := 0 } s m ([.int x0, .int x1, .ref o2] : List Value).toArray below meth c H locs 0 0 (MQ below (va_Qi (fun (r : Int32) (_ : Unit) => Q r) (fun (_ : Unit) (t : State) => POST D A (SX3_checkIndex_8e157 cyI cyZ cyC) t) A) ([.int x0, .int x1, .ref o2] : List Value).toArray s 0 0 A) (F0 m 9 ls []) := by
      intro  hw H locs hP hD hS ls hl
      unfold WX3_checkIndex_8e157_9 at hw
      exact hw.elim
    unfold WX3_checkIndex_8e157 at hw
    refine lv_iload_n hx hb dJ3_checkIndex_8e157_0 rfl (lv_at hl 0 rfl) ?_
    refine lv_if_lt (tgt := 9) hx hb dJ3_checkIndex_8e157_1 (by decide) (fun c1 => ?_) (fun c1 => ?_)
    · replace hw := hw.1 c1
      exact B9  hw _ _ hP hD hS _ (lv_sub hl [0, 1, 2] rfl)
    · replace hw := hw.2 c1
      refine lv_iload_n hx hb dJ3_checkIndex_8e157_4 rfl (lv_at hl 0 rfl) ?_
      refine lv_iload_n hx hb dJ3_checkIndex_8e157_5 rfl (lv_at hl 1 rfl) ?_
      refine lv_icmp_lt (tgt := 16) hx hb dJ3_checkIndex_8e157_6 (by decide) (fun c2 => ?_) (fun c2 => ?_)
      · replace hw := hw.1 c2
        refine lv_iload_n hx hb dJ3_checkIndex_8e157_16 rfl (lv_at hl 0 rfl) ?_
        exact W.iret (v := x0) hx hb hr (fun t ht hW => ⟨⟨x0, (), rfl, hw, post_mk ht hP hD⟩, hS.F ht⟩) hS.2.2 dJ3_checkIndex_8e157_17 hlocks
      · replace hw := hw.2 c2
        exact B9  hw _ _ hP hD hS _ (lv_sub hl [0, 1, 2] rfl)
set_option maxHeartbeats 8000000 in
set_option maxRecDepth 100000 in
theorem MX0_checkIndex_df160 (l : Launch) (D : va_G) (cyI cyZ cyC : ClassId) (ro : va_W) (ce : Nat → CT) (cin : Nat → Prop) (ad : AD) (sz : Nat) (x0 : Int32) (x1 : Int32) (Q : Prop)  (hw : WX0_checkIndex_df160 x0 x1 Q) : Met l yJ0_checkIndex_df160 wsJ0_checkIndex_df160 ({ frames := 1, cells := 0, slots := 0, locals := 22 }) (va_Pc [.int x0, .int x1] (PRE D cyI cyZ cyC ro ce cin ad (SX0_checkIndex_df160 cyI cyZ cyC) sz)) (va_Qv (fun (_ : Unit) => Q) (fun (_ : Unit) (t : State) => POST D (va_A (SX0_checkIndex_df160 cyI cyZ cyC) sz) (SX0_checkIndex_df160 cyI cyZ cyC) t) (va_A (SX0_checkIndex_df160 cyI cyZ cyC) sz)) 0 0 (va_A (SX0_checkIndex_df160 cyI cyZ cyC) sz) := by
  refine va_MetF (cc := cJ0_checkIndex_df160) (maxL := 2) (ret := none) (by decide +kernel) rfl ?_
  intro p e s m args below meth c s₁ B hml hv
  obtain ⟨rfl, hsz, hP, hK, hD0, hX⟩ := hv
  have hx := B.exec
  have hb := B.bytes
  have hr := B.returns
  have hts := atoms_spec (ws := wsJ0_checkIndex_df160) B.pre
  have hown : s.vm.findClass RJ0 = some m.cls := findClass_of_methodNamed B.named
  have hlocks := B.notSynchronized
  clear B
  subst hsz
  have hD := hD0.self (sz := s.heap.size)
  clear hD0
  generalize hAe : va_A (SX0_checkIndex_df160 cyI cyZ cyC) s.heap.size = A at hD hX ⊢
  have hA : ∀ q : Nat, s.heap.size ≤ q → A q := fun q h => by rw [← hAe]; exact Or.inr h
  clear hAe
  obtain ⟨H, hH⟩ : ∃ H, H = s.heap := ⟨_, rfl⟩
  rw [← hH] at hP ⊢
  have hS : va_S A s.heap H [] := by rw [hH]; exact va_S.rf
  clear hH
  replace hP : va_P D vwCl [] H := hP
  replace hD : va_D A [] := hD
  have hl := lv_entry ([.int x0, .int x1]) (n := 2) (Nat.le_of_ble_eq_true rfl)
  rw [lg_entry_eq]
  generalize (lg_sl ([.int x0, .int x1]) ++ List.replicate (2 - (lg_sl ([.int x0, .int x1])).length) Slot.unset).toArray = ls at hl ⊢
  replace hl : lv_has ls 2 [(0, .int x0), (1, .int x1)] := hl
  unfold WX0_checkIndex_df160 at hw
  refine lv_iload_n hx hb dJ0_checkIndex_df160_0 rfl (lv_at hl 0 rfl) ?_
  refine lv_iload_n hx hb dJ0_checkIndex_df160_1 rfl (lv_at hl 1 rfl) ?_
  obtain ⟨oz, hoz⟩ := hX.env.2.2.2.2.2.2.2.2
  refine va_gets (v := va_rf oz) hx hb hoz hS hown (hts _ (List.mem_of_getElem? (i := 1) rfl)) (fun _ h9 => h9) dJ0_checkIndex_df160_2 ?_
  obtain ⟨QK, eQ, hq⟩ := genq (P := WX3_checkIndex_8e157 x0 x1) hw
  clear hw
  have hPc := hP.sub (ws' := []) [] rfl
  have hDc := hD.sub (ws' := []) [] (by decide) rfl
  have hFc := va_free (wc := []) hD hS hA [] rfl
  refine va_calli (va_runS (As := [.int x0, .int x1, va_rf oz]) (rest := []) ⟨hx, hb, hml, hown, hts⟩ (MX3_checkIndex_8e157 l D cyI cyZ cyC ro ce cin ad   oz H.size x0 x1 QK  hq) (va_cwS 3 hts gJ0_checkIndex_df160_J3_checkIndex_8e157 rfl rfl rfl dmJ3_checkIndex_8e157 ⟨Nat.le_of_ble_eq_true rfl, Nat.le_of_ble_eq_true rfl⟩) ⟨pre_bl, fun U hU hW => ⟨rfl, pre_of hX hS hK hPc hDc hFc hU hW⟩⟩ rfl rfl hl.1 rfl (lv_room (Nat.le_of_ble_eq_true rfl)) dJ0_checkIndex_df160_5 ⟨Nat.zero_le _, Nat.zero_le _⟩) hS (fun q _ h => hFc q h) hFc (fun r1 u t H1 locs ht hvm hw hB hz1 hk1 hS => ?_)
  replace hw : QK r1 := hw
  clear hq
  subst eQ
  obtain ⟨hP1, hD1⟩ := hB
  rw [ht] at hP1
  obtain ⟨hP, hD⟩ := va_join (wr := []) (w1 := []) hP hD [] [] rfl rfl (by decide) (by decide) hk1 hFc hP1 hD1
  clear hPc hDc hFc hk1 hz1 hP1 hD1 ht hvm
  generalize H1 = H at hP hS ⊢
  replace hP : va_P D vwCl [] H := hP
  replace hD : va_D A [] := hD
  refine lv_pop hx hb dJ0_checkIndex_df160_8 rfl ?_
  exact W.vret hx hb hr (fun t ht hW => ⟨⟨(), rfl, hw, post_mk ht hP hD⟩, hS.F ht⟩) hS.2.2 dJ0_checkIndex_df160_9 hlocks
set_option maxHeartbeats 8000000 in
set_option maxRecDepth 100000 in
theorem MX2_checkIndex_2214a (l : Launch) (D : va_G) (cyI cyZ cyC : ClassId) (ro : va_W) (ce : Nat → CT) (cin : Nat → Prop) (ad : AD) (sz : Nat) (x0 : Int32) (z1 : Nat) (Q : Prop)  (hz : z1 < 9) (hw : WX2_checkIndex_2214a x0 z1 Q) : Met l yJ2_checkIndex_2214a wsJ2_checkIndex_2214a ({ frames := 2, cells := 0, slots := 0, locals := 43 }) (va_Pc [.int x0, .ref (ad.2.1 z1)] (PRE D cyI cyZ cyC ro ce cin ad (SX2_checkIndex_2214a cyI cyZ cyC) sz)) (va_Qv (fun (_ : Unit) => Q) (fun (_ : Unit) (t : State) => POST D (va_A (SX2_checkIndex_2214a cyI cyZ cyC) sz) (SX2_checkIndex_2214a cyI cyZ cyC) t) (va_A (SX2_checkIndex_2214a cyI cyZ cyC) sz)) 0 0 (va_A (SX2_checkIndex_2214a cyI cyZ cyC) sz) := by
  refine va_MetF (cc := cJ2_checkIndex_2214a) (maxL := 2) (ret := none) (by decide +kernel) rfl ?_
  intro p e s m args below meth c s₁ B hml hv
  obtain ⟨rfl, hsz, hP, hK, hD0, hX⟩ := hv
  have hx := B.exec
  have hb := B.bytes
  have hr := B.returns
  have hts := atoms_spec (ws := wsJ2_checkIndex_2214a) B.pre
  have hown : s.vm.findClass RJ2 = some m.cls := findClass_of_methodNamed B.named
  have hlocks := B.notSynchronized
  clear B
  subst hsz
  have hD := hD0.self (sz := s.heap.size)
  clear hD0
  generalize hAe : va_A (SX2_checkIndex_2214a cyI cyZ cyC) s.heap.size = A at hD hX ⊢
  have hA : ∀ q : Nat, s.heap.size ≤ q → A q := fun q h => by rw [← hAe]; exact Or.inr h
  clear hAe
  obtain ⟨H, hH⟩ : ∃ H, H = s.heap := ⟨_, rfl⟩
  rw [← hH] at hP ⊢
  have hS : va_S A s.heap H [] := by rw [hH]; exact va_S.rf
  clear hH
  replace hP : va_P D vwCl [] H := hP
  replace hD : va_D A [] := hD
  have hl := lv_entry ([.int x0, .ref (ad.2.1 z1)]) (n := 2) (Nat.le_of_ble_eq_true rfl)
  rw [lg_entry_eq]
  generalize (lg_sl ([.int x0, .ref (ad.2.1 z1)]) ++ List.replicate (2 - (lg_sl ([.int x0, .ref (ad.2.1 z1)])).length) Slot.unset).toArray = ls at hl ⊢
  replace hl : lv_has ls 2 [(0, .int x0), (1, .ref (ad.2.1 z1))] := hl
  unfold WX2_checkIndex_2214a at hw
  refine lv_iload_n hx hb dJ2_checkIndex_2214a_0 rfl (lv_at hl 0 rfl) ?_
  refine lv_aload_n hx hb dJ2_checkIndex_2214a_1 rfl (lv_at hl 1 rfl) ?_
  obtain ⟨QK, eQ, hq⟩ := genq (P := WX2_length_9d52b z1) hw
  clear hw
  have hPc := hP.sub (ws' := []) [] rfl
  have hDc := hD.sub (ws' := []) [] (by decide) rfl
  have hFc := va_free (wc := []) hD hS hA [] rfl
  refine va_calli (va_runS (As := [.ref (ad.2.1 z1)]) (rest := [.int x0]) ⟨hx, hb, hml, hown, hts⟩ (MX2_length_9d52b l D cyI cyZ cyC ro ce cin ad    H.size z1 QK hz hq) (va_cwS 1 hts gJ2_checkIndex_2214a_J2_length_9d52b rfl rfl rfl dmJ2_length_9d52b ⟨Nat.le_of_ble_eq_true rfl, Nat.le_of_ble_eq_true rfl⟩) ⟨pre_bl, fun U hU hW => ⟨rfl, pre_of hX hS hK hPc hDc hFc hU hW⟩⟩ rfl rfl hl.1 rfl (lv_room (Nat.le_of_ble_eq_true rfl)) dJ2_checkIndex_2214a_2 ⟨Nat.zero_le _, Nat.zero_le _⟩) hS (fun q _ h => hFc q h) hFc (fun r1 u t H1 locs ht hvm hw hB hz1 hk1 hS => ?_)
  replace hw : QK r1 := hw
  clear hq
  subst eQ
  obtain ⟨hP1, hD1⟩ := hB
  rw [ht] at hP1
  obtain ⟨hP, hD⟩ := va_join (wr := []) (w1 := []) hP hD [] [] rfl rfl (by decide) (by decide) hk1 hFc hP1 hD1
  clear hPc hDc hFc hk1 hz1 hP1 hD1 ht hvm
  generalize H1 = H at hP hS ⊢
  replace hP : va_P D vwCl [] H := hP
  replace hD : va_D A [] := hD
  obtain ⟨QK, eQ, hq⟩ := genq (P := WX0_checkIndex_df160 x0 r1) hw
  clear hw
  have hPc := hP.sub (ws' := []) [] rfl
  have hDc := hD.sub (ws' := []) [] (by decide) rfl
  have hFc := va_free (wc := []) hD hS hA [] rfl
  refine va_callv (va_runS (As := [.int x0, .int r1]) (rest := []) ⟨hx, hb, hml, hown, hts⟩ (MX0_checkIndex_df160 l D cyI cyZ cyC ro ce cin ad    H.size x0 r1 QK  hq) (va_cwS 2 hts gJ2_checkIndex_2214a_J0_checkIndex_df160 rfl rfl rfl dmJ0_checkIndex_df160 ⟨Nat.le_of_ble_eq_true rfl, Nat.le_of_ble_eq_true rfl⟩) ⟨pre_bl, fun U hU hW => ⟨rfl, pre_of hX hS hK hPc hDc hFc hU hW⟩⟩ rfl rfl hl.1 rfl (lv_room (Nat.le_of_ble_eq_true rfl)) dJ2_checkIndex_2214a_5 ⟨Nat.zero_le _, Nat.zero_le _⟩) hS (fun q _ h => hFc q h) hFc (fun u t H1 locs ht hvm hw hB hz1 hk1 hS => ?_)
  replace hw : QK := hw
  clear hq
  subst eQ
  obtain ⟨hP1, hD1⟩ := hB
  rw [ht] at hP1
  obtain ⟨hP, hD⟩ := va_join (wr := []) (w1 := []) hP hD [] [] rfl rfl (by decide) (by decide) hk1 hFc hP1 hD1
  clear hPc hDc hFc hk1 hz1 hP1 hD1 ht hvm
  generalize H1 = H at hP hS ⊢
  replace hP : va_P D vwCl [] H := hP
  replace hD : va_D A [] := hD
  exact W.vret hx hb hr (fun t ht hW => ⟨⟨(), rfl, hw, post_mk ht hP hD⟩, hS.F ht⟩) hS.2.2 dJ2_checkIndex_2214a_8 hlocks
set_option maxHeartbeats 8000000 in
set_option maxRecDepth 100000 in
theorem MX2_getChar_3b067 (l : Launch) (D : va_G) (cyI cyZ cyC : ClassId) (ro : va_W) (ce : Nat → CT) (cin : Nat → Prop) (ad : AD) (sz : Nat) (z0 : Nat) (x1 : Int32) (Q : Int32 → Prop)  (hz : z0 < 9) (hw : WX2_getChar_3b067 z0 x1 Q) : Met l yJ2_getChar_3b067 wsJ2_getChar_3b067 ({ frames := 0, cells := 0, slots := 0, locals := 0 }) (va_Pc [.ref (ad.2.1 z0), .int x1] (PRE D cyI cyZ cyC ro ce cin ad (SX2_getChar_3b067 cyI cyZ cyC) sz)) (va_Qi (fun (r : Int32) (_ : Unit) => Q r) (fun (_ : Unit) (t : State) => POST D (va_A (SX2_getChar_3b067 cyI cyZ cyC) sz) (SX2_getChar_3b067 cyI cyZ cyC) t) (va_A (SX2_getChar_3b067 cyI cyZ cyC) sz)) 0 0 (va_A (SX2_getChar_3b067 cyI cyZ cyC) sz) := by
  refine va_MetF (cc := cJ2_getChar_3b067) (maxL := 2) (ret := (some .char)) (by decide +kernel) rfl ?_
  intro p e s m args below meth c s₁ B hml hv
  obtain ⟨rfl, hsz, hP, hK, hD0, hX⟩ := hv
  have hx := B.exec
  have hb := B.bytes
  have hr := B.returns
  have hts := atoms_spec (ws := wsJ2_getChar_3b067) B.pre
  have hown : s.vm.findClass RJ2 = some m.cls := findClass_of_methodNamed B.named
  have hlocks := B.notSynchronized
  clear B
  subst hsz
  have hD := hD0.self (sz := s.heap.size)
  clear hD0
  generalize hAe : va_A (SX2_getChar_3b067 cyI cyZ cyC) s.heap.size = A at hD hX ⊢
  have hA : ∀ q : Nat, s.heap.size ≤ q → A q := fun q h => by rw [← hAe]; exact Or.inr h
  clear hAe
  obtain ⟨H, hH⟩ : ∃ H, H = s.heap := ⟨_, rfl⟩
  rw [← hH] at hP ⊢
  have hS : va_S A s.heap H [] := by rw [hH]; exact va_S.rf
  clear hH
  replace hP : va_P D vwCl [] H := hP
  replace hD : va_D A [] := hD
  have hl := lv_entry ([.ref (ad.2.1 z0), .int x1]) (n := 2) (Nat.le_of_ble_eq_true rfl)
  rw [lg_entry_eq]
  generalize (lg_sl ([.ref (ad.2.1 z0), .int x1]) ++ List.replicate (2 - (lg_sl ([.ref (ad.2.1 z0), .int x1])).length) Slot.unset).toArray = ls at hl ⊢
  replace hl : lv_has ls 2 [(0, .ref (ad.2.1 z0)), (1, .int x1)] := hl
  unfold WX2_getChar_3b067 at hw
  exact hw.elim
set_option maxHeartbeats 8000000 in
set_option maxRecDepth 100000 in
theorem MX2_charAt_3b067 (l : Launch) (D : va_G) (cyI cyZ cyC : ClassId) (ro : va_W) (ce : Nat → CT) (cin : Nat → Prop) (ad : AD) (sz : Nat) (z0 : Nat) (x1 : Int32) (Q : Int32 → Prop)  (hz : z0 < 9) (hw : WX2_charAt_3b067 z0 x1 Q) : Met l yJ2_charAt_3b067 wsJ2_charAt_3b067 ({ frames := 3, cells := 0, slots := 0, locals := 64 }) (va_Pc [.ref (ad.2.1 z0), .int x1] (PRE D cyI cyZ cyC ro ce cin ad (SX2_charAt_3b067 cyI cyZ cyC) sz)) (va_Qi (fun (r : Int32) (_ : Unit) => Q r) (fun (_ : Unit) (t : State) => POST D (va_A (SX2_charAt_3b067 cyI cyZ cyC) sz) (SX2_charAt_3b067 cyI cyZ cyC) t) (va_A (SX2_charAt_3b067 cyI cyZ cyC) sz)) 0 0 (va_A (SX2_charAt_3b067 cyI cyZ cyC) sz) := by
  refine va_MetF (cc := cJ2_charAt_3b067) (maxL := 2) (ret := (some .char)) (by decide +kernel) rfl ?_
  intro p e s m args below meth c s₁ B hml hv
  obtain ⟨rfl, hsz, hP, hK, hD0, hX⟩ := hv
  have hx := B.exec
  have hb := B.bytes
  have hr := B.returns
  have hts := atoms_spec (ws := wsJ2_charAt_3b067) B.pre
  have hown : s.vm.findClass RJ2 = some m.cls := findClass_of_methodNamed B.named
  have hlocks := B.notSynchronized
  clear B
  subst hsz
  have hD := hD0.self (sz := s.heap.size)
  clear hD0
  generalize hAe : va_A (SX2_charAt_3b067 cyI cyZ cyC) s.heap.size = A at hD hX ⊢
  have hA : ∀ q : Nat, s.heap.size ≤ q → A q := fun q h => by rw [← hAe]; exact Or.inr h
  clear hAe
  obtain ⟨H, hH⟩ : ∃ H, H = s.heap := ⟨_, rfl⟩
  rw [← hH] at hP ⊢
  have hS : va_S A s.heap H [] := by rw [hH]; exact va_S.rf
  clear hH
  replace hP : va_P D vwCl [] H := hP
  replace hD : va_D A [] := hD
  have hl := lv_entry ([.ref (ad.2.1 z0), .int x1]) (n := 2) (Nat.le_of_ble_eq_true rfl)
  rw [lg_entry_eq]
  generalize (lg_sl ([.ref (ad.2.1 z0), .int x1]) ++ List.replicate (2 - (lg_sl ([.ref (ad.2.1 z0), .int x1])).length) Slot.unset).toArray = ls at hl ⊢
  replace hl : lv_has ls 2 [(0, .ref (ad.2.1 z0)), (1, .int x1)] := hl
  unfold WX2_charAt_3b067 at hw
  refine lv_iload_n hx hb dJ2_charAt_3b067_0 rfl (lv_at hl 1 rfl) ?_
  refine lv_aload_n hx hb dJ2_charAt_3b067_1 rfl (lv_at hl 0 rfl) ?_
  obtain ⟨QK, eQ, hq⟩ := genq (P := WX2_checkIndex_2214a x1 z0) hw
  clear hw
  have hPc := hP.sub (ws' := []) [] rfl
  have hDc := hD.sub (ws' := []) [] (by decide) rfl
  have hFc := va_free (wc := []) hD hS hA [] rfl
  refine va_callv (va_runS (As := [.int x1, .ref (ad.2.1 z0)]) (rest := []) ⟨hx, hb, hml, hown, hts⟩ (MX2_checkIndex_2214a l D cyI cyZ cyC ro ce cin ad    H.size x1 z0 QK hz hq) (va_cwS 2 hts gJ2_charAt_3b067_J2_checkIndex_2214a rfl rfl rfl dmJ2_checkIndex_2214a ⟨Nat.le_of_ble_eq_true rfl, Nat.le_of_ble_eq_true rfl⟩) ⟨pre_bl, fun U hU hW => ⟨rfl, pre_of hX hS hK hPc hDc hFc hU hW⟩⟩ rfl rfl hl.1 rfl (lv_room (Nat.le_of_ble_eq_true rfl)) dJ2_charAt_3b067_2 ⟨Nat.zero_le _, Nat.zero_le _⟩) hS (fun q _ h => hFc q h) hFc (fun u t H1 locs ht hvm hw hB hz1 hk1 hS => ?_)
  replace hw : QK := hw
  clear hq
  subst eQ
  obtain ⟨hP1, hD1⟩ := hB
  rw [ht] at hP1
  obtain ⟨hP, hD⟩ := va_join (wr := []) (w1 := []) hP hD [] [] rfl rfl (by decide) (by decide) hk1 hFc hP1 hD1
  clear hPc hDc hFc hk1 hz1 hP1 hD1 ht hvm
  generalize H1 = H at hP hS ⊢
  replace hP : va_P D vwCl [] H := hP
  replace hD : va_D A [] := hD
  refine lv_aload_n hx hb dJ2_charAt_3b067_5 rfl (lv_at hl 0 rfl) ?_
  refine lv_iload_n hx hb dJ2_charAt_3b067_6 rfl (lv_at hl 1 rfl) ?_
  obtain ⟨QK, eQ, hq⟩ := genq (P := WX2_getChar_3b067 z0 x1) hw
  clear hw
  have hPc := hP.sub (ws' := []) [] rfl
  have hDc := hD.sub (ws' := []) [] (by decide) rfl
  have hFc := va_free (wc := []) hD hS hA [] rfl
  refine va_calli (va_runS (As := [.ref (ad.2.1 z0), .int x1]) (rest := []) ⟨hx, hb, hml, hown, hts⟩ (MX2_getChar_3b067 l D cyI cyZ cyC ro ce cin ad    H.size z0 x1 QK hz hq) (va_cwS 2 hts gJ2_charAt_3b067_J2_getChar_3b067 rfl rfl rfl dmJ2_getChar_3b067 ⟨Nat.le_of_ble_eq_true rfl, Nat.le_of_ble_eq_true rfl⟩) ⟨pre_bl, fun U hU hW => ⟨rfl, pre_of hX hS hK hPc hDc hFc hU hW⟩⟩ rfl rfl hl.1 rfl (lv_room (Nat.le_of_ble_eq_true rfl)) dJ2_charAt_3b067_7 ⟨Nat.zero_le _, Nat.zero_le _⟩) hS (fun q _ h => hFc q h) hFc (fun r1 u t H1 locs ht hvm hw hB hz1 hk1 hS => ?_)
  replace hw : QK r1 := hw
  clear hq
  subst eQ
  obtain ⟨hP1, hD1⟩ := hB
  rw [ht] at hP1
  obtain ⟨hP, hD⟩ := va_join (wr := []) (w1 := []) hP hD [] [] rfl rfl (by decide) (by decide) hk1 hFc hP1 hD1
  clear hPc hDc hFc hk1 hz1 hP1 hD1 ht hvm
  generalize H1 = H at hP hS ⊢
  replace hP : va_P D vwCl [] H := hP
  replace hD : va_D A [] := hD
  have hib := hw.1
  replace hw := hw.2
  exact W.zret (v := r1) hx hb hr hib (fun t ht hW => ⟨⟨r1, (), rfl, hw, post_mk ht hP hD⟩, hS.F ht⟩) hS.2.2 dJ2_charAt_3b067_10 hlocks
set_option maxHeartbeats 8000000 in
set_option maxRecDepth 100000 in
theorem MX1_charAt_3b067 (l : Launch) (D : va_G) (cyI cyZ cyC : ClassId) (ro : va_W) (ce : Nat → CT) (cin : Nat → Prop) (ad : AD) (sz : Nat) (z0 : Nat) (x1 : Int32) (Q : Int32 → Prop)  (hz : z0 < 9) (hw : WX1_charAt_3b067 z0 x1 Q) : Met l yJ1_charAt_3b067 wsJ1_charAt_3b067 ({ frames := 2, cells := 0, slots := 0, locals := 43 }) (va_Pc [.ref (ad.2.1 z0), .int x1] (PRE D cyI cyZ cyC ro ce cin ad (SX1_charAt_3b067 cyI cyZ cyC) sz)) (va_Qi (fun (r : Int32) (_ : Unit) => Q r) (fun (_ : Unit) (t : State) => POST D (va_A (SX1_charAt_3b067 cyI cyZ cyC) sz) (SX1_charAt_3b067 cyI cyZ cyC) t) (va_A (SX1_charAt_3b067 cyI cyZ cyC) sz)) 0 0 (va_A (SX1_charAt_3b067 cyI cyZ cyC) sz) := by
  refine va_MetF (cc := cJ1_charAt_3b067) (maxL := 2) (ret := (some .char)) (by decide +kernel) rfl ?_
  intro p e s m args below meth c s₁ B hml hv
  obtain ⟨rfl, hsz, hP, hK, hD0, hX⟩ := hv
  have hx := B.exec
  have hb := B.bytes
  have hr := B.returns
  have hts := atoms_spec (ws := wsJ1_charAt_3b067) B.pre
  have hown : s.vm.findClass RJ1 = some m.cls := findClass_of_methodNamed B.named
  have hlocks := B.notSynchronized
  clear B
  subst hsz
  have hD := hD0.self (sz := s.heap.size)
  clear hD0
  generalize hAe : va_A (SX1_charAt_3b067 cyI cyZ cyC) s.heap.size = A at hD hX ⊢
  have hA : ∀ q : Nat, s.heap.size ≤ q → A q := fun q h => by rw [← hAe]; exact Or.inr h
  clear hAe
  obtain ⟨H, hH⟩ : ∃ H, H = s.heap := ⟨_, rfl⟩
  rw [← hH] at hP ⊢
  have hS : va_S A s.heap H [] := by rw [hH]; exact va_S.rf
  clear hH
  replace hP : va_P D vwCl [] H := hP
  replace hD : va_D A [] := hD
  have hl := lv_entry ([.ref (ad.2.1 z0), .int x1]) (n := 2) (Nat.le_of_ble_eq_true rfl)
  rw [lg_entry_eq]
  generalize (lg_sl ([.ref (ad.2.1 z0), .int x1]) ++ List.replicate (2 - (lg_sl ([.ref (ad.2.1 z0), .int x1])).length) Slot.unset).toArray = ls at hl ⊢
  replace hl : lv_has ls 2 [(0, .ref (ad.2.1 z0)), (1, .int x1)] := hl
  unfold WX1_charAt_3b067 at hw
  refine lv_iload_n hx hb dJ1_charAt_3b067_0 rfl (lv_at hl 1 rfl) ?_
  refine lv_aload_n hx hb dJ1_charAt_3b067_1 rfl (lv_at hl 0 rfl) ?_
  refine va_tlen (v := nI (lenJS.getD z0 0)) hx hb (hX.env.1.1 z0 hz).2.2.2 hS rfl dJ1_charAt_3b067_2 ?_
  obtain ⟨QK, eQ, hq⟩ := genq (P := WX0_checkIndex_df160 x1 (nI (lenJS.getD z0 0))) hw
  clear hw
  have hPc := hP.sub (ws' := []) [] rfl
  have hDc := hD.sub (ws' := []) [] (by decide) rfl
  have hFc := va_free (wc := []) hD hS hA [] rfl
  refine va_callv (va_runS (As := [.int x1, .int (nI (lenJS.getD z0 0))]) (rest := []) ⟨hx, hb, hml, hown, hts⟩ (MX0_checkIndex_df160 l D cyI cyZ cyC ro ce cin ad    H.size x1 (nI (lenJS.getD z0 0)) QK  hq) (va_cwS 2 hts gJ1_charAt_3b067_J0_checkIndex_df160 rfl rfl rfl dmJ0_checkIndex_df160 ⟨Nat.le_of_ble_eq_true rfl, Nat.le_of_ble_eq_true rfl⟩) ⟨pre_bl, fun U hU hW => ⟨rfl, pre_of hX hS hK hPc hDc hFc hU hW⟩⟩ rfl rfl hl.1 rfl (lv_room (Nat.le_of_ble_eq_true rfl)) dJ1_charAt_3b067_3 ⟨Nat.zero_le _, Nat.zero_le _⟩) hS (fun q _ h => hFc q h) hFc (fun u t H1 locs ht hvm hw hB hz1 hk1 hS => ?_)
  replace hw : QK := hw
  clear hq
  subst eQ
  obtain ⟨hP1, hD1⟩ := hB
  rw [ht] at hP1
  obtain ⟨hP, hD⟩ := va_join (wr := []) (w1 := []) hP hD [] [] rfl rfl (by decide) (by decide) hk1 hFc hP1 hD1
  clear hPc hDc hFc hk1 hz1 hP1 hD1 ht hvm
  generalize H1 = H at hP hS ⊢
  replace hP : va_P D vwCl [] H := hP
  replace hD : va_D A [] := hD
  refine lv_aload_n hx hb dJ1_charAt_3b067_6 rfl (lv_at hl 0 rfl) ?_
  refine lv_iload_n hx hb dJ1_charAt_3b067_7 rfl (lv_at hl 1 rfl) ?_
  have h1 := hw.1
  replace hw := hw.2
  refine va_tb (v := .int ((bytJS.getD z0 []).getD x1.toNatClampNeg 0)) hx hb (hX.env.1.1 z0 hz).2.2.2 hS h1 rfl dJ1_charAt_3b067_8 ?_
  refine lv_sipush (v := 255) hx hb dJ1_charAt_3b067_9 (by decide) ?_
  refine lv_iand hx hb dJ1_charAt_3b067_12 ?_
  refine lv_i2c (v := ((((bytJS.getD z0 []).getD x1.toNatClampNeg 0) &&& 255).toUInt32 % 65536).toInt32) hx hb dJ1_charAt_3b067_13 rfl ?_
  have hib := hw.1
  replace hw := hw.2
  exact W.zret (v := ((((bytJS.getD z0 []).getD x1.toNatClampNeg 0) &&& 255).toUInt32 % 65536).toInt32) hx hb hr hib (fun t ht hW => ⟨⟨((((bytJS.getD z0 []).getD x1.toNatClampNeg 0) &&& 255).toUInt32 % 65536).toInt32, (), rfl, hw, post_mk ht hP hD⟩, hS.F ht⟩) hS.2.2 dJ1_charAt_3b067_14 hlocks
set_option maxHeartbeats 8000000 in
set_option maxRecDepth 100000 in
theorem MX0_charAt_5068e (l : Launch) (D : va_G) (cyI cyZ cyC : ClassId) (ro : va_W) (ce : Nat → CT) (cin : Nat → Prop) (ad : AD) (sz : Nat) (z0 : Nat) (x1 : Int32) (Q : Int32 → Prop)  (hz : z0 < 9) (hw : WX0_charAt_5068e z0 x1 Q) : Met l yJ0_charAt_5068e wsJ0_charAt_5068e ({ frames := 4, cells := 0, slots := 0, locals := 85 }) (va_Pc [.ref (ad.1 z0), .int x1] (PRE D cyI cyZ cyC ro ce cin ad (SX0_charAt_5068e cyI cyZ cyC) sz)) (va_Qi (fun (r : Int32) (_ : Unit) => Q r) (fun (_ : Unit) (t : State) => POST D (va_A (SX0_charAt_5068e cyI cyZ cyC) sz) (SX0_charAt_5068e cyI cyZ cyC) t) (va_A (SX0_charAt_5068e cyI cyZ cyC) sz)) 0 0 (va_A (SX0_charAt_5068e cyI cyZ cyC) sz) := by
  refine va_MetF (cc := cJ0_charAt_5068e) (maxL := 2) (ret := (some .char)) (by decide +kernel) rfl ?_
  intro p e s m args below meth c s₁ B hml hv
  obtain ⟨rfl, hsz, hP, hK, hD0, hX⟩ := hv
  have hx := B.exec
  have hb := B.bytes
  have hr := B.returns
  have hts := atoms_spec (ws := wsJ0_charAt_5068e) B.pre
  have hown : s.vm.findClass RJ0 = some m.cls := findClass_of_methodNamed B.named
  have hlocks := B.notSynchronized
  clear B
  subst hsz
  have hD := hD0.self (sz := s.heap.size)
  clear hD0
  generalize hAe : va_A (SX0_charAt_5068e cyI cyZ cyC) s.heap.size = A at hD hX ⊢
  have hA : ∀ q : Nat, s.heap.size ≤ q → A q := fun q h => by rw [← hAe]; exact Or.inr h
  clear hAe
  obtain ⟨H, hH⟩ : ∃ H, H = s.heap := ⟨_, rfl⟩
  rw [← hH] at hP ⊢
  have hS : va_S A s.heap H [] := by rw [hH]; exact va_S.rf
  clear hH
  replace hP : va_P D vwCl [] H := hP
  replace hD : va_D A [] := hD
  have hl := lv_entry ([.ref (ad.1 z0), .int x1]) (n := 2) (Nat.le_of_ble_eq_true rfl)
  rw [lg_entry_eq]
  generalize (lg_sl ([.ref (ad.1 z0), .int x1]) ++ List.replicate (2 - (lg_sl ([.ref (ad.1 z0), .int x1])).length) Slot.unset).toArray = ls at hl ⊢
  replace hl : lv_has ls 2 [(0, .ref (ad.1 z0)), (1, .int x1)] := hl
  unfold WX0_charAt_5068e at hw
  refine lv_aload_n hx hb dJ0_charAt_5068e_0 rfl (lv_at hl 0 rfl) ?_
  obtain ⟨QK, eQ, hq⟩ := genq (P := WX0_isLatin1_aae02 z0) hw
  clear hw
  have hPc := hP.sub (ws' := []) [] rfl
  have hDc := hD.sub (ws' := []) [] (by decide) rfl
  have hFc := va_free (wc := []) hD hS hA [] rfl
  refine va_calli (va_runV (As := []) (rest := []) ⟨hx, hb, hml, hown, hts⟩ (MX0_isLatin1_aae02 l D cyI cyZ cyC ro ce cin ad    H.size z0 QK hz hq) (cwV 0 hts gJ0_charAt_5068e_J0_isLatin1_aae02 rfl rfl rfl ⟨rfl, dmJ0_isLatin1_aae02⟩ ⟨Nat.le_of_ble_eq_true rfl, Nat.le_of_ble_eq_true rfl⟩) ⟨pre_bl, vk_recv hX.env.1 hz hS, fun U hU hW => ⟨rfl, pre_of hX hS hK hPc hDc hFc hU hW⟩⟩ rfl rfl hl.1 rfl (lv_room (Nat.le_of_ble_eq_true rfl)) dJ0_charAt_5068e_1 ⟨Nat.zero_le _, Nat.zero_le _⟩) hS (fun q _ h => hFc q h) hFc (fun r1 u t H1 locs ht hvm hw hB hz1 hk1 hS => ?_)
  replace hw : QK r1 := hw
  clear hq
  subst eQ
  obtain ⟨hP1, hD1⟩ := hB
  rw [ht] at hP1
  obtain ⟨hP, hD⟩ := va_join (wr := []) (w1 := []) hP hD [] [] rfl rfl (by decide) (by decide) hk1 hFc hP1 hD1
  clear hPc hDc hFc hk1 hz1 hP1 hD1 ht hvm
  generalize H1 = H at hP hS ⊢
  replace hP : va_P D vwCl [] H := hP
  replace hD : va_D A [] := hD
  refine lv_if_eq (tgt := 16) hx hb dJ0_charAt_5068e_4 (by decide) (fun c2 => ?_) (fun c2 => ?_)
  · replace hw := hw.1 c2
    refine lv_aload_n hx hb dJ0_charAt_5068e_16 rfl (lv_at hl 0 rfl) ?_
    refine vk_getf (v := .ref (ad.2.1 z0)) hx hb (hX.env.1.1 z0 hz).2.2.1 hS hown (hts _ (List.mem_of_getElem? (i := 1) rfl)) (fun _ h9 => h9) dJ0_charAt_5068e_17 ?_
    refine lv_iload_n hx hb dJ0_charAt_5068e_20 rfl (lv_at hl 1 rfl) ?_
    obtain ⟨QK, eQ, hq⟩ := genq (P := WX2_charAt_3b067 z0 x1) hw
    clear hw
    have hPc := hP.sub (ws' := []) [] rfl
    have hDc := hD.sub (ws' := []) [] (by decide) rfl
    have hFc := va_free (wc := []) hD hS hA [] rfl
    refine va_calli (va_runS (As := [.ref (ad.2.1 z0), .int x1]) (rest := []) ⟨hx, hb, hml, hown, hts⟩ (MX2_charAt_3b067 l D cyI cyZ cyC ro ce cin ad    H.size z0 x1 QK hz hq) (va_cwS 2 hts gJ0_charAt_5068e_J2_charAt_3b067 rfl rfl rfl dmJ2_charAt_3b067 ⟨Nat.le_of_ble_eq_true rfl, Nat.le_of_ble_eq_true rfl⟩) ⟨pre_bl, fun U hU hW => ⟨rfl, pre_of hX hS hK hPc hDc hFc hU hW⟩⟩ rfl rfl hl.1 rfl (lv_room (Nat.le_of_ble_eq_true rfl)) dJ0_charAt_5068e_21 ⟨Nat.zero_le _, Nat.zero_le _⟩) hS (fun q _ h => hFc q h) hFc (fun r3 u t H1 locs ht hvm hw hB hz1 hk1 hS => ?_)
    replace hw : QK r3 := hw
    clear hq
    subst eQ
    obtain ⟨hP1, hD1⟩ := hB
    rw [ht] at hP1
    obtain ⟨hP, hD⟩ := va_join (wr := []) (w1 := []) hP hD [] [] rfl rfl (by decide) (by decide) hk1 hFc hP1 hD1
    clear hPc hDc hFc hk1 hz1 hP1 hD1 ht hvm
    generalize H1 = H at hP hS ⊢
    replace hP : va_P D vwCl [] H := hP
    replace hD : va_D A [] := hD
    have hib := hw.1
    replace hw := hw.2
    exact W.zret (v := r3) hx hb hr hib (fun t ht hW => ⟨⟨r3, (), rfl, hw, post_mk ht hP hD⟩, hS.F ht⟩) hS.2.2 dJ0_charAt_5068e_24 hlocks
  · replace hw := hw.2 c2
    refine lv_aload_n hx hb dJ0_charAt_5068e_7 rfl (lv_at hl 0 rfl) ?_
    refine vk_getf (v := .ref (ad.2.1 z0)) hx hb (hX.env.1.1 z0 hz).2.2.1 hS hown (hts _ (List.mem_of_getElem? (i := 1) rfl)) (fun _ h9 => h9) dJ0_charAt_5068e_8 ?_
    refine lv_iload_n hx hb dJ0_charAt_5068e_11 rfl (lv_at hl 1 rfl) ?_
    obtain ⟨QK, eQ, hq⟩ := genq (P := WX1_charAt_3b067 z0 x1) hw
    clear hw
    have hPc := hP.sub (ws' := []) [] rfl
    have hDc := hD.sub (ws' := []) [] (by decide) rfl
    have hFc := va_free (wc := []) hD hS hA [] rfl
    refine va_calli (va_runS (As := [.ref (ad.2.1 z0), .int x1]) (rest := []) ⟨hx, hb, hml, hown, hts⟩ (MX1_charAt_3b067 l D cyI cyZ cyC ro ce cin ad    H.size z0 x1 QK hz hq) (va_cwS 2 hts gJ0_charAt_5068e_J1_charAt_3b067 rfl rfl rfl dmJ1_charAt_3b067 ⟨Nat.le_of_ble_eq_true rfl, Nat.le_of_ble_eq_true rfl⟩) ⟨pre_bl, fun U hU hW => ⟨rfl, pre_of hX hS hK hPc hDc hFc hU hW⟩⟩ rfl rfl hl.1 rfl (lv_room (Nat.le_of_ble_eq_true rfl)) dJ0_charAt_5068e_12 ⟨Nat.zero_le _, Nat.zero_le _⟩) hS (fun q _ h => hFc q h) hFc (fun r4 u t H1 locs ht hvm hw hB hz1 hk1 hS => ?_)
    replace hw : QK r4 := hw
    clear hq
    subst eQ
    obtain ⟨hP1, hD1⟩ := hB
    rw [ht] at hP1
    obtain ⟨hP, hD⟩ := va_join (wr := []) (w1 := []) hP hD [] [] rfl rfl (by decide) (by decide) hk1 hFc hP1 hD1
    clear hPc hDc hFc hk1 hz1 hP1 hD1 ht hvm
    generalize H1 = H at hP hS ⊢
    replace hP : va_P D vwCl [] H := hP
    replace hD : va_D A [] := hD
    have hib := hw.1
    replace hw := hw.2
    exact W.zret (v := r4) hx hb hr hib (fun t ht hW => ⟨⟨r4, (), rfl, hw, post_mk ht hP hD⟩, hS.F ht⟩) hS.2.2 dJ0_charAt_5068e_15 hlocks
set_option maxHeartbeats 8000000 in
set_option maxRecDepth 100000 in
theorem MX11_spells (l : Launch) (D : va_G) (cyI cyZ cyC : ClassId) (ro : va_W) (ce : Nat → CT) (cin : Nat → Prop) (ad : AD) (a_t a_t_s : Nat) (w_t_thrown w_t_image w_t_hasImage w_t_act w_t_open w_t_readMany w_t_readSpan w_t_readSum w_t_readOdds w_t_readBank w_t_readMill w_t_readLevel w_t_levels w_t_boardsNow w_t_ways w_t_nexts w_t_hourNow w_t_staying w_t_leftCard w_t_leftLine w_t_isMute w_t_higher w_t_over w_t_dry w_t_truths w_t_failHours w_t_failRow w_t_keptBoards w_t_keptHung w_t_bodies w_t_ran w_t_kind w_t_number w_t_tellsV : Value) (sz : Nat) (z1 : Nat) (i_t_spot : Int32) (i_t_end : Int32) (i_t_isWrong : Int32) (f_t_s : Nat → Int32) (Q : Int32 → Int32 → Prop)  (hz : z1 < 9) (hw : WX11_spells z1 i_t_spot i_t_end i_t_isWrong f_t_s Q) : Met l yX11_spells wsX11_spells ({ frames := 5, cells := 0, slots := 0, locals := 106 }) (va_Pc [.ref a_t, .ref (ad.1 z1)] (PRE D cyI cyZ cyC ro ce cin ad (SX11_spells cyI cyZ cyC a_t a_t_s w_t_thrown w_t_image w_t_hasImage w_t_act w_t_open w_t_readMany w_t_readSpan w_t_readSum w_t_readOdds w_t_readBank w_t_readMill w_t_readLevel w_t_levels w_t_boardsNow w_t_ways w_t_nexts w_t_hourNow w_t_staying w_t_leftCard w_t_leftLine w_t_isMute w_t_higher w_t_over w_t_dry w_t_truths w_t_failHours w_t_failRow w_t_keptBoards w_t_keptHung w_t_bodies w_t_ran w_t_kind w_t_number w_t_tellsV  i_t_spot i_t_end i_t_isWrong f_t_s) sz)) (va_Qv (fun (u : Int32 × Int32) => Q u.1 u.2) (fun (u : Int32 × Int32) (t : State) => POST D (va_A (SX11_spells cyI cyZ cyC a_t a_t_s w_t_thrown w_t_image w_t_hasImage w_t_act w_t_open w_t_readMany w_t_readSpan w_t_readSum w_t_readOdds w_t_readBank w_t_readMill w_t_readLevel w_t_levels w_t_boardsNow w_t_ways w_t_nexts w_t_hourNow w_t_staying w_t_leftCard w_t_leftLine w_t_isMute w_t_higher w_t_over w_t_dry w_t_truths w_t_failHours w_t_failRow w_t_keptBoards w_t_keptHung w_t_bodies w_t_ran w_t_kind w_t_number w_t_tellsV  i_t_spot i_t_end i_t_isWrong f_t_s) sz) (SX11_spells cyI cyZ cyC a_t a_t_s w_t_thrown w_t_image w_t_hasImage w_t_act w_t_open w_t_readMany w_t_readSpan w_t_readSum w_t_readOdds w_t_readBank w_t_readMill w_t_readLevel w_t_levels w_t_boardsNow w_t_ways w_t_nexts w_t_hourNow w_t_staying w_t_leftCard w_t_leftLine w_t_isMute w_t_higher w_t_over w_t_dry w_t_truths w_t_failHours w_t_failRow w_t_keptBoards w_t_keptHung w_t_bodies w_t_ran w_t_kind w_t_number w_t_tellsV  u.1 i_t_end u.2 f_t_s) t) (va_A (SX11_spells cyI cyZ cyC a_t a_t_s w_t_thrown w_t_image w_t_hasImage w_t_act w_t_open w_t_readMany w_t_readSpan w_t_readSum w_t_readOdds w_t_readBank w_t_readMill w_t_readLevel w_t_levels w_t_boardsNow w_t_ways w_t_nexts w_t_hourNow w_t_staying w_t_leftCard w_t_leftLine w_t_isMute w_t_higher w_t_over w_t_dry w_t_truths w_t_failHours w_t_failRow w_t_keptBoards w_t_keptHung w_t_bodies w_t_ran w_t_kind w_t_number w_t_tellsV  i_t_spot i_t_end i_t_isWrong f_t_s) sz)) 0 0 (va_A (SX11_spells cyI cyZ cyC a_t a_t_s w_t_thrown w_t_image w_t_hasImage w_t_act w_t_open w_t_readMany w_t_readSpan w_t_readSum w_t_readOdds w_t_readBank w_t_readMill w_t_readLevel w_t_levels w_t_boardsNow w_t_ways w_t_nexts w_t_hourNow w_t_staying w_t_leftCard w_t_leftLine w_t_isMute w_t_higher w_t_over w_t_dry w_t_truths w_t_failHours w_t_failRow w_t_keptBoards w_t_keptHung w_t_bodies w_t_ran w_t_kind w_t_number w_t_tellsV  i_t_spot i_t_end i_t_isWrong f_t_s) sz) := by
  refine Met.ofW (cc := cX11_spells) (maxL := 3) (ret := none) (by decide +kernel) rfl ?_
  intro p e s m args below meth c s₁ B hml hv
  obtain ⟨rfl, hsz, hP, hK, hD0, hX⟩ := hv
  have hx := B.exec
  have hb := B.bytes
  have hr := B.returns
  have hts := atoms_spec (ws := wsX11_spells) B.pre
  have hown : s.vm.findClass RX11 = some m.cls := findClass_of_methodNamed B.named
  have hlocks := B.notSynchronized
  clear B
  subst hsz
  have hD := hD0.self (sz := s.heap.size)
  clear hD0
  generalize hAe : va_A (SX11_spells cyI cyZ cyC a_t a_t_s w_t_thrown w_t_image w_t_hasImage w_t_act w_t_open w_t_readMany w_t_readSpan w_t_readSum w_t_readOdds w_t_readBank w_t_readMill w_t_readLevel w_t_levels w_t_boardsNow w_t_ways w_t_nexts w_t_hourNow w_t_staying w_t_leftCard w_t_leftLine w_t_isMute w_t_higher w_t_over w_t_dry w_t_truths w_t_failHours w_t_failRow w_t_keptBoards w_t_keptHung w_t_bodies w_t_ran w_t_kind w_t_number w_t_tellsV  i_t_spot i_t_end i_t_isWrong f_t_s) s.heap.size = A at hD hX ⊢
  have hA : ∀ q : Nat, s.heap.size ≤ q → A q := fun q h => by rw [← hAe]; exact Or.inr h
  clear hAe
  obtain ⟨H, hH⟩ : ∃ H, H = s.heap := ⟨_, rfl⟩
  rw [← hH] at hP ⊢
  have hS : va_S A s.heap H [] := by rw [hH]; exact va_S.rf
  clear hH
  replace hP : va_P D vwCl [(a_t, .inr (10, [w_t_thrown, .ref a_t_s, w_t_image, w_t_hasImage, w_t_act, .int i_t_spot, .int i_t_end, .int i_t_isWrong, w_t_open, w_t_readMany, w_t_readSpan, w_t_readSum, w_t_readOdds, w_t_readBank, w_t_readMill, w_t_readLevel, w_t_levels, w_t_boardsNow, w_t_ways, w_t_nexts, w_t_hourNow, w_t_staying, w_t_leftCard, w_t_leftLine, w_t_isMute, w_t_higher, w_t_over, w_t_dry, w_t_truths, w_t_failHours, w_t_failRow, w_t_keptBoards, w_t_keptHung, w_t_bodies, w_t_ran, w_t_kind, w_t_number, w_t_tellsV])), (a_t_s, .inl (cyI, 1454, .inl f_t_s))] H := hP
  replace hD : va_D A [(a_t, .inr (10, [w_t_thrown, .ref a_t_s, w_t_image, w_t_hasImage, w_t_act, .int i_t_spot, .int i_t_end, .int i_t_isWrong, w_t_open, w_t_readMany, w_t_readSpan, w_t_readSum, w_t_readOdds, w_t_readBank, w_t_readMill, w_t_readLevel, w_t_levels, w_t_boardsNow, w_t_ways, w_t_nexts, w_t_hourNow, w_t_staying, w_t_leftCard, w_t_leftLine, w_t_isMute, w_t_higher, w_t_over, w_t_dry, w_t_truths, w_t_failHours, w_t_failRow, w_t_keptBoards, w_t_keptHung, w_t_bodies, w_t_ran, w_t_kind, w_t_number, w_t_tellsV])), (a_t_s, .inl (cyI, 1454, .inl f_t_s))] := hD
  have hl := lv_entry ([.ref a_t, .ref (ad.1 z1)]) (n := 3) (Nat.le_of_ble_eq_true rfl)
  rw [lg_entry_eq]
  generalize (lg_sl ([.ref a_t, .ref (ad.1 z1)]) ++ List.replicate (3 - (lg_sl ([.ref a_t, .ref (ad.1 z1)])).length) Slot.unset).toArray = ls at hl ⊢
  replace hl : lv_has ls 3 [(0, .ref a_t), (1, .ref (ad.1 z1))] := hl
  have B2 : ∀ (n2 : Nat), ∀ (x2 : Int32) (i_t_spot : Int32) (i_t_isWrong : Int32), WX11_spells_2 z1 i_t_end f_t_s Q  n2 x2 i_t_spot i_t_isWrong → ∀ (H : Heap) (locs : List Loc), va_P D vwCl [(a_t, .inr (10, [w_t_thrown, .ref a_t_s, w_t_image, w_t_hasImage, w_t_act, .int i_t_spot, .int i_t_end, .int i_t_isWrong, w_t_open, w_t_readMany, w_t_readSpan, w_t_readSum, w_t_readOdds, w_t_readBank, w_t_readMill, w_t_readLevel, w_t_levels, w_t_boardsNow, w_t_ways, w_t_nexts, w_t_hourNow, w_t_staying, w_t_leftCard, w_t_leftLine, w_t_isMute, w_t_higher, w_t_over, w_t_dry, w_t_truths, w_t_failHours, w_t_failRow, w_t_keptBoards, w_t_keptHung, w_t_bodies, w_t_ran, w_t_kind, w_t_number, w_t_tellsV])), (a_t_s, .inl (cyI, 1454, .inl f_t_s))] H → va_D A [(a_t, .inr (10, [w_t_thrown, .ref a_t_s, w_t_image, w_t_hasImage, w_t_act, .int i_t_spot, .int i_t_end, .int i_t_isWrong, w_t_open, w_t_readMany, w_t_readSpan, w_t_readSum, w_t_readOdds, w_t_readBank, w_t_readMill, w_t_readLevel, w_t_levels, w_t_boardsNow, w_t_ways, w_t_nexts, w_t_hourNow, w_t_staying, w_t_leftCard, w_t_leftLine, w_t_isMute, w_t_higher, w_t_over, w_t_dry, w_t_truths, w_t_failHours, w_t_failRow, w_t_keptBoards, w_t_keptHung, w_t_bodies, w_t_ran, w_t_kind, w_t_number, w_t_tellsV])), (a_t_s, .inl (cyI, 1454, .inl f_t_s))] → va_S A s.heap H locs → ∀ (ls : Array Slot), lv_has ls 3 [(0, .ref a_t), (1, .ref (ad.1 z1)), (2, .int x2)] → W p l e { frames := 5, cells := 0, slots := 0, locals := 106 } s m ([.ref a_t, .ref (ad.1 z1)] : List Value).toArray below meth c H locs 0 0 (MQ below (va_Qv (fun (u : Int32 × Int32) => Q u.1 u.2) (fun (u : Int32 × Int32) (t : State) => POST D A (SX11_spells cyI cyZ cyC a_t a_t_s w_t_thrown w_t_image w_t_hasImage w_t_act w_t_open w_t_readMany w_t_readSpan w_t_readSum w_t_readOdds w_t_readBank w_t_readMill w_t_readLevel w_t_levels w_t_boardsNow w_t_ways w_t_nexts w_t_hourNow w_t_staying w_t_leftCard w_t_leftLine w_t_isMute w_t_higher w_t_over w_t_dry w_t_truths w_t_failHours w_t_failRow w_t_keptBoards w_t_keptHung w_t_bodies w_t_ran w_t_kind w_t_number w_t_tellsV  u.1 i_t_end u.2 f_t_s) t) A) ([.ref a_t, .ref (ad.1 z1)] : List Value).toArray s 0 0 A) (F0 m 2 ls []) := by
    intro n2
    induction n2 with
    | zero => intro x2 i_t_spot i_t_isWrong hw; exact (show False from hw).elim
    | succ n2 ih2 =>
      intro x2 i_t_spot i_t_isWrong hw H locs hP hD hS ls hl
      unfold WX11_spells_2 at hw
      refine lv_iload_n hx hb dX11_spells_2 rfl (lv_at hl 2 rfl) ?_
      refine lv_aload_n hx hb dX11_spells_3 rfl (lv_at hl 1 rfl) ?_
      obtain ⟨QK, eQ, hq⟩ := genq (P := WX0_length_8abf5 z1) hw
      clear hw
      have hPc := hP.sub (ws' := []) [] rfl
      have hDc := hD.sub (ws' := []) [] (by decide) rfl
      have hFc := va_free (wc := []) hD hS hA [] rfl
      refine va_calli (va_runV (As := []) (rest := [.int x2]) ⟨hx, hb, hml, hown, hts⟩ (MX0_length_8abf5 l D cyI cyZ cyC ro ce cin ad    H.size z1 QK hz hq) (cwV 0 hts gX11_spells_J0_length_8abf5 rfl rfl rfl ⟨rfl, dmJ0_length_8abf5⟩ ⟨Nat.le_of_ble_eq_true rfl, Nat.le_of_ble_eq_true rfl⟩) ⟨pre_bl, vk_recv hX.env.1 hz hS, fun U hU hW => ⟨rfl, pre_of hX hS hK hPc hDc hFc hU hW⟩⟩ rfl rfl hl.1 rfl (lv_room (Nat.le_of_ble_eq_true rfl)) dX11_spells_4 ⟨Nat.zero_le _, Nat.zero_le _⟩) hS (fun q _ h => hFc q h) hFc (fun r1 u t H1 locs ht hvm hw hB hz1 hk1 hS => ?_)
      replace hw : QK r1 := hw
      clear hq
      subst eQ
      obtain ⟨hP1, hD1⟩ := hB
      rw [ht] at hP1
      obtain ⟨hP, hD⟩ := va_join (wr := [(a_t, .inr (10, [w_t_thrown, .ref a_t_s, w_t_image, w_t_hasImage, w_t_act, .int i_t_spot, .int i_t_end, .int i_t_isWrong, w_t_open, w_t_readMany, w_t_readSpan, w_t_readSum, w_t_readOdds, w_t_readBank, w_t_readMill, w_t_readLevel, w_t_levels, w_t_boardsNow, w_t_ways, w_t_nexts, w_t_hourNow, w_t_staying, w_t_leftCard, w_t_leftLine, w_t_isMute, w_t_higher, w_t_over, w_t_dry, w_t_truths, w_t_failHours, w_t_failRow, w_t_keptBoards, w_t_keptHung, w_t_bodies, w_t_ran, w_t_kind, w_t_number, w_t_tellsV])), (a_t_s, .inl (cyI, 1454, .inl f_t_s))]) (w1 := []) hP hD [] [0, 1] rfl rfl (by decide) (by decide) hk1 hFc hP1 hD1
      clear hPc hDc hFc hk1 hz1 hP1 hD1 ht hvm
      generalize H1 = H at hP hS ⊢
      replace hP : va_P D vwCl [(a_t, .inr (10, [w_t_thrown, .ref a_t_s, w_t_image, w_t_hasImage, w_t_act, .int i_t_spot, .int i_t_end, .int i_t_isWrong, w_t_open, w_t_readMany, w_t_readSpan, w_t_readSum, w_t_readOdds, w_t_readBank, w_t_readMill, w_t_readLevel, w_t_levels, w_t_boardsNow, w_t_ways, w_t_nexts, w_t_hourNow, w_t_staying, w_t_leftCard, w_t_leftLine, w_t_isMute, w_t_higher, w_t_over, w_t_dry, w_t_truths, w_t_failHours, w_t_failRow, w_t_keptBoards, w_t_keptHung, w_t_bodies, w_t_ran, w_t_kind, w_t_number, w_t_tellsV])), (a_t_s, .inl (cyI, 1454, .inl f_t_s))] H := hP
      replace hD : va_D A [(a_t, .inr (10, [w_t_thrown, .ref a_t_s, w_t_image, w_t_hasImage, w_t_act, .int i_t_spot, .int i_t_end, .int i_t_isWrong, w_t_open, w_t_readMany, w_t_readSpan, w_t_readSum, w_t_readOdds, w_t_readBank, w_t_readMill, w_t_readLevel, w_t_levels, w_t_boardsNow, w_t_ways, w_t_nexts, w_t_hourNow, w_t_staying, w_t_leftCard, w_t_leftLine, w_t_isMute, w_t_higher, w_t_over, w_t_dry, w_t_truths, w_t_failHours, w_t_failRow, w_t_keptBoards, w_t_keptHung, w_t_bodies, w_t_ran, w_t_kind, w_t_number, w_t_tellsV])), (a_t_s, .inl (cyI, 1454, .inl f_t_s))] := hD
      refine lv_icmp_ge (tgt := 25) hx hb dX11_spells_7 (by decide) (fun c2 => ?_) (fun c2 => ?_)
      · replace hw := hw.1 c2
        exact W.vret hx hb hr (fun t ht hW => ⟨⟨(i_t_spot, i_t_isWrong), rfl, hw, post_mk ht hP hD⟩, hS.F ht⟩) hS.2.2 dX11_spells_25 hlocks
      · replace hw := hw.2 c2
        refine lv_aload_n hx hb dX11_spells_10 rfl (lv_at hl 0 rfl) ?_
        refine lv_aload_n hx hb dX11_spells_11 rfl (lv_at hl 1 rfl) ?_
        refine lv_iload_n hx hb dX11_spells_12 rfl (lv_at hl 2 rfl) ?_
        obtain ⟨QK, eQ, hq⟩ := genq (P := WX0_charAt_5068e z1 x2) hw
        clear hw
        have hPc := hP.sub (ws' := []) [] rfl
        have hDc := hD.sub (ws' := []) [] (by decide) rfl
        have hFc := va_free (wc := []) hD hS hA [] rfl
        refine va_calli (va_runV (As := [.int x2]) (rest := [.ref a_t]) ⟨hx, hb, hml, hown, hts⟩ (MX0_charAt_5068e l D cyI cyZ cyC ro ce cin ad    H.size z1 x2 QK hz hq) (cwV 1 hts gX11_spells_J0_charAt_5068e rfl rfl rfl ⟨rfl, dmJ0_charAt_5068e⟩ ⟨Nat.le_of_ble_eq_true rfl, Nat.le_of_ble_eq_true rfl⟩) ⟨pre_bl, vk_recv hX.env.1 hz hS, fun U hU hW => ⟨rfl, pre_of hX hS hK hPc hDc hFc hU hW⟩⟩ rfl rfl hl.1 rfl (lv_room (Nat.le_of_ble_eq_true rfl)) dX11_spells_13 ⟨Nat.zero_le _, Nat.zero_le _⟩) hS (fun q _ h => hFc q h) hFc (fun r3 u t H1 locs ht hvm hw hB hz1 hk1 hS => ?_)
        replace hw : QK r3 := hw
        clear hq
        subst eQ
        obtain ⟨hP1, hD1⟩ := hB
        rw [ht] at hP1
        obtain ⟨hP, hD⟩ := va_join (wr := [(a_t, .inr (10, [w_t_thrown, .ref a_t_s, w_t_image, w_t_hasImage, w_t_act, .int i_t_spot, .int i_t_end, .int i_t_isWrong, w_t_open, w_t_readMany, w_t_readSpan, w_t_readSum, w_t_readOdds, w_t_readBank, w_t_readMill, w_t_readLevel, w_t_levels, w_t_boardsNow, w_t_ways, w_t_nexts, w_t_hourNow, w_t_staying, w_t_leftCard, w_t_leftLine, w_t_isMute, w_t_higher, w_t_over, w_t_dry, w_t_truths, w_t_failHours, w_t_failRow, w_t_keptBoards, w_t_keptHung, w_t_bodies, w_t_ran, w_t_kind, w_t_number, w_t_tellsV])), (a_t_s, .inl (cyI, 1454, .inl f_t_s))]) (w1 := []) hP hD [] [0, 1] rfl rfl (by decide) (by decide) hk1 hFc hP1 hD1
        clear hPc hDc hFc hk1 hz1 hP1 hD1 ht hvm
        generalize H1 = H at hP hS ⊢
        replace hP : va_P D vwCl [(a_t, .inr (10, [w_t_thrown, .ref a_t_s, w_t_image, w_t_hasImage, w_t_act, .int i_t_spot, .int i_t_end, .int i_t_isWrong, w_t_open, w_t_readMany, w_t_readSpan, w_t_readSum, w_t_readOdds, w_t_readBank, w_t_readMill, w_t_readLevel, w_t_levels, w_t_boardsNow, w_t_ways, w_t_nexts, w_t_hourNow, w_t_staying, w_t_leftCard, w_t_leftLine, w_t_isMute, w_t_higher, w_t_over, w_t_dry, w_t_truths, w_t_failHours, w_t_failRow, w_t_keptBoards, w_t_keptHung, w_t_bodies, w_t_ran, w_t_kind, w_t_number, w_t_tellsV])), (a_t_s, .inl (cyI, 1454, .inl f_t_s))] H := hP
        replace hD : va_D A [(a_t, .inr (10, [w_t_thrown, .ref a_t_s, w_t_image, w_t_hasImage, w_t_act, .int i_t_spot, .int i_t_end, .int i_t_isWrong, w_t_open, w_t_readMany, w_t_readSpan, w_t_readSum, w_t_readOdds, w_t_readBank, w_t_readMill, w_t_readLevel, w_t_levels, w_t_boardsNow, w_t_ways, w_t_nexts, w_t_hourNow, w_t_staying, w_t_leftCard, w_t_leftLine, w_t_isMute, w_t_higher, w_t_over, w_t_dry, w_t_truths, w_t_failHours, w_t_failRow, w_t_keptBoards, w_t_keptHung, w_t_bodies, w_t_ran, w_t_kind, w_t_number, w_t_tellsV])), (a_t_s, .inl (cyI, 1454, .inl f_t_s))] := hD
        obtain ⟨QK, eQ, hq⟩ := genq (P := WX11_must r3 i_t_spot i_t_end i_t_isWrong f_t_s) hw
        clear hw
        have hPc := hP.sub (ws' := [(a_t, .inr (10, [w_t_thrown, .ref a_t_s, w_t_image, w_t_hasImage, w_t_act, .int i_t_spot, .int i_t_end, .int i_t_isWrong, w_t_open, w_t_readMany, w_t_readSpan, w_t_readSum, w_t_readOdds, w_t_readBank, w_t_readMill, w_t_readLevel, w_t_levels, w_t_boardsNow, w_t_ways, w_t_nexts, w_t_hourNow, w_t_staying, w_t_leftCard, w_t_leftLine, w_t_isMute, w_t_higher, w_t_over, w_t_dry, w_t_truths, w_t_failHours, w_t_failRow, w_t_keptBoards, w_t_keptHung, w_t_bodies, w_t_ran, w_t_kind, w_t_number, w_t_tellsV])), (a_t_s, .inl (cyI, 1454, .inl f_t_s))]) [0, 1] rfl
        have hDc := hD.sub (ws' := [(a_t, .inr (10, [w_t_thrown, .ref a_t_s, w_t_image, w_t_hasImage, w_t_act, .int i_t_spot, .int i_t_end, .int i_t_isWrong, w_t_open, w_t_readMany, w_t_readSpan, w_t_readSum, w_t_readOdds, w_t_readBank, w_t_readMill, w_t_readLevel, w_t_levels, w_t_boardsNow, w_t_ways, w_t_nexts, w_t_hourNow, w_t_staying, w_t_leftCard, w_t_leftLine, w_t_isMute, w_t_higher, w_t_over, w_t_dry, w_t_truths, w_t_failHours, w_t_failRow, w_t_keptBoards, w_t_keptHung, w_t_bodies, w_t_ran, w_t_kind, w_t_number, w_t_tellsV])), (a_t_s, .inl (cyI, 1454, .inl f_t_s))]) [0, 1] (by decide) rfl
        have hFc := va_free (wc := [(a_t, .inr (10, [w_t_thrown, .ref a_t_s, w_t_image, w_t_hasImage, w_t_act, .int i_t_spot, .int i_t_end, .int i_t_isWrong, w_t_open, w_t_readMany, w_t_readSpan, w_t_readSum, w_t_readOdds, w_t_readBank, w_t_readMill, w_t_readLevel, w_t_levels, w_t_boardsNow, w_t_ways, w_t_nexts, w_t_hourNow, w_t_staying, w_t_leftCard, w_t_leftLine, w_t_isMute, w_t_higher, w_t_over, w_t_dry, w_t_truths, w_t_failHours, w_t_failRow, w_t_keptBoards, w_t_keptHung, w_t_bodies, w_t_ran, w_t_kind, w_t_number, w_t_tellsV])), (a_t_s, .inl (cyI, 1454, .inl f_t_s))]) hD hS hA [0, 1] rfl
        refine va_callv (va_runV (As := [.int r3]) (rest := []) ⟨hx, hb, hml, hown, hts⟩ (MX11_must l D cyI cyZ cyC ro ce cin ad a_t a_t_s  (w_t_thrown) (w_t_image) (w_t_hasImage) (w_t_act) (w_t_open) (w_t_readMany) (w_t_readSpan) (w_t_readSum) (w_t_readOdds) (w_t_readBank) (w_t_readMill) (w_t_readLevel) (w_t_levels) (w_t_boardsNow) (w_t_ways) (w_t_nexts) (w_t_hourNow) (w_t_staying) (w_t_leftCard) (w_t_leftLine) (w_t_isMute) (w_t_higher) (w_t_over) (w_t_dry) (w_t_truths) (w_t_failHours) (w_t_failRow) (w_t_keptBoards) (w_t_keptHung) (w_t_bodies) (w_t_ran) (w_t_kind) (w_t_number) (w_t_tellsV) H.size r3 i_t_spot i_t_end i_t_isWrong f_t_s QK  hq) (cwV 1 hts gX11_spells_X11_must rfl rfl rfl ⟨rfl, dmX11_must⟩ ⟨Nat.le_of_ble_eq_true rfl, Nat.le_of_ble_eq_true rfl⟩) ⟨pre_bl, va_recv hK hPc (ci := 10) (q0 := 0) rfl rfl, fun U hU hW => ⟨rfl, pre_of hX hS hK hPc hDc hFc hU hW⟩⟩ rfl rfl hl.1 rfl (lv_room (Nat.le_of_ble_eq_true rfl)) dX11_spells_16 ⟨Nat.zero_le _, Nat.zero_le _⟩) hS (fun q _ h => hFc q h) hFc (fun u t H1 locs ht hvm hw hB hz1 hk1 hS => ?_)
        obtain ⟨i_t_spot_4, i_t_isWrong_5⟩ := u
        replace hw : QK i_t_spot_4 i_t_isWrong_5 := hw
        clear hq
        subst eQ
        obtain ⟨hP1, hD1⟩ := hB
        rw [ht] at hP1
        obtain ⟨hP, hD⟩ := va_join (wr := []) (w1 := [(a_t, .inr (10, [w_t_thrown, .ref a_t_s, w_t_image, w_t_hasImage, w_t_act, .int i_t_spot_4, .int i_t_end, .int i_t_isWrong_5, w_t_open, w_t_readMany, w_t_readSpan, w_t_readSum, w_t_readOdds, w_t_readBank, w_t_readMill, w_t_readLevel, w_t_levels, w_t_boardsNow, w_t_ways, w_t_nexts, w_t_hourNow, w_t_staying, w_t_leftCard, w_t_leftLine, w_t_isMute, w_t_higher, w_t_over, w_t_dry, w_t_truths, w_t_failHours, w_t_failRow, w_t_keptBoards, w_t_keptHung, w_t_bodies, w_t_ran, w_t_kind, w_t_number, w_t_tellsV])), (a_t_s, .inl (cyI, 1454, .inl f_t_s))]) hP hD [0, 1] [] rfl rfl (by decide) (by decide) hk1 hFc hP1 hD1
        clear hPc hDc hFc hk1 hz1 hP1 hD1 ht hvm
        generalize H1 = H at hP hS ⊢
        replace hP : va_P D vwCl [(a_t, .inr (10, [w_t_thrown, .ref a_t_s, w_t_image, w_t_hasImage, w_t_act, .int i_t_spot_4, .int i_t_end, .int i_t_isWrong_5, w_t_open, w_t_readMany, w_t_readSpan, w_t_readSum, w_t_readOdds, w_t_readBank, w_t_readMill, w_t_readLevel, w_t_levels, w_t_boardsNow, w_t_ways, w_t_nexts, w_t_hourNow, w_t_staying, w_t_leftCard, w_t_leftLine, w_t_isMute, w_t_higher, w_t_over, w_t_dry, w_t_truths, w_t_failHours, w_t_failRow, w_t_keptBoards, w_t_keptHung, w_t_bodies, w_t_ran, w_t_kind, w_t_number, w_t_tellsV])), (a_t_s, .inl (cyI, 1454, .inl f_t_s))] H := hP
        replace hD : va_D A [(a_t, .inr (10, [w_t_thrown, .ref a_t_s, w_t_image, w_t_hasImage, w_t_act, .int i_t_spot_4, .int i_t_end, .int i_t_isWrong_5, w_t_open, w_t_readMany, w_t_readSpan, w_t_readSum, w_t_readOdds, w_t_readBank, w_t_readMill, w_t_readLevel, w_t_levels, w_t_boardsNow, w_t_ways, w_t_nexts, w_t_hourNow, w_t_staying, w_t_leftCard, w_t_leftLine, w_t_isMute, w_t_higher, w_t_over, w_t_dry, w_t_truths, w_t_failHours, w_t_failRow, w_t_keptBoards, w_t_keptHung, w_t_bodies, w_t_ran, w_t_kind, w_t_number, w_t_tellsV])), (a_t_s, .inl (cyI, 1454, .inl f_t_s))] := hD
        obtain ⟨y6, ey6⟩ : ∃ y : Int32, y = x2 + 1 := ⟨_, rfl⟩
        replace hw := hw y6 ey6
        refine lv_iinc (v := y6) (lv' := [(2, .int y6), (0, .ref a_t), (1, .ref (ad.1 z1))]) hx hb dX11_spells_19 hl (k := 2) rfl (by rw [ey6]; rfl) (by decide) rfl (fun ls hl => ?_)
        refine lv_goto (tgt := 2) hx hb dX11_spells_22 (by decide) ?_
        exact ih2 y6 i_t_spot_4 i_t_isWrong_5 hw _ _ hP hD hS _ (lv_sub hl [1, 2, 0] rfl)
  unfold WX11_spells at hw
  refine lv_iconst (v := 0) hx hb dX11_spells_0 (by decide) ?_
  refine lv_istore_n (lv' := [(2, .int 0), (0, .ref a_t), (1, .ref (ad.1 z1))]) hx hb dX11_spells_1 rfl hl (by decide) rfl (fun ls hl => ?_)
  obtain ⟨nn, hw⟩ := hw
  exact B2 nn 0 i_t_spot i_t_isWrong hw _ _ hP hD hS _ (lv_sub hl [1, 2, 0] rfl)
set_option maxHeartbeats 8000000 in
set_option maxRecDepth 100000 in
theorem MX11_figure (l : Launch) (D : va_G) (cyI cyZ cyC : ClassId) (ro : va_W) (ce : Nat → CT) (cin : Nat → Prop) (ad : AD) (a_t a_t_s : Nat) (w_t_thrown w_t_image w_t_hasImage w_t_act w_t_open w_t_readMany w_t_readSpan w_t_readSum w_t_readOdds w_t_readBank w_t_readMill w_t_readLevel w_t_levels w_t_boardsNow w_t_ways w_t_nexts w_t_hourNow w_t_staying w_t_leftCard w_t_leftLine w_t_isMute w_t_higher w_t_over w_t_dry w_t_truths w_t_failHours w_t_failRow w_t_keptBoards w_t_keptHung w_t_bodies w_t_ran w_t_kind w_t_number w_t_tellsV : Value) (sz : Nat) (x1 : Int32) (x2 : Int32) (i_t_spot : Int32) (i_t_end : Int32) (i_t_isWrong : Int32) (f_t_s : Nat → Int32) (Q : Int32 → Int32 → Int32 → Prop)  (hw : WX11_figure x1 x2 i_t_spot i_t_end i_t_isWrong f_t_s Q) : Met l yX11_figure wsX11_figure ({ frames := 1, cells := 0, slots := 0, locals := 22 }) (va_Pc [.ref a_t, .int x1, .int x2] (PRE D cyI cyZ cyC ro ce cin ad (SX11_figure cyI cyZ cyC a_t a_t_s w_t_thrown w_t_image w_t_hasImage w_t_act w_t_open w_t_readMany w_t_readSpan w_t_readSum w_t_readOdds w_t_readBank w_t_readMill w_t_readLevel w_t_levels w_t_boardsNow w_t_ways w_t_nexts w_t_hourNow w_t_staying w_t_leftCard w_t_leftLine w_t_isMute w_t_higher w_t_over w_t_dry w_t_truths w_t_failHours w_t_failRow w_t_keptBoards w_t_keptHung w_t_bodies w_t_ran w_t_kind w_t_number w_t_tellsV  i_t_spot i_t_end i_t_isWrong f_t_s) sz)) (va_Qi (fun (r : Int32) (u : Int32 × Int32) => Q r u.1 u.2) (fun (u : Int32 × Int32) (t : State) => POST D (va_A (SX11_figure cyI cyZ cyC a_t a_t_s w_t_thrown w_t_image w_t_hasImage w_t_act w_t_open w_t_readMany w_t_readSpan w_t_readSum w_t_readOdds w_t_readBank w_t_readMill w_t_readLevel w_t_levels w_t_boardsNow w_t_ways w_t_nexts w_t_hourNow w_t_staying w_t_leftCard w_t_leftLine w_t_isMute w_t_higher w_t_over w_t_dry w_t_truths w_t_failHours w_t_failRow w_t_keptBoards w_t_keptHung w_t_bodies w_t_ran w_t_kind w_t_number w_t_tellsV  i_t_spot i_t_end i_t_isWrong f_t_s) sz) (SX11_figure cyI cyZ cyC a_t a_t_s w_t_thrown w_t_image w_t_hasImage w_t_act w_t_open w_t_readMany w_t_readSpan w_t_readSum w_t_readOdds w_t_readBank w_t_readMill w_t_readLevel w_t_levels w_t_boardsNow w_t_ways w_t_nexts w_t_hourNow w_t_staying w_t_leftCard w_t_leftLine w_t_isMute w_t_higher w_t_over w_t_dry w_t_truths w_t_failHours w_t_failRow w_t_keptBoards w_t_keptHung w_t_bodies w_t_ran w_t_kind w_t_number w_t_tellsV  u.1 i_t_end u.2 f_t_s) t) (va_A (SX11_figure cyI cyZ cyC a_t a_t_s w_t_thrown w_t_image w_t_hasImage w_t_act w_t_open w_t_readMany w_t_readSpan w_t_readSum w_t_readOdds w_t_readBank w_t_readMill w_t_readLevel w_t_levels w_t_boardsNow w_t_ways w_t_nexts w_t_hourNow w_t_staying w_t_leftCard w_t_leftLine w_t_isMute w_t_higher w_t_over w_t_dry w_t_truths w_t_failHours w_t_failRow w_t_keptBoards w_t_keptHung w_t_bodies w_t_ran w_t_kind w_t_number w_t_tellsV  i_t_spot i_t_end i_t_isWrong f_t_s) sz)) 0 0 (va_A (SX11_figure cyI cyZ cyC a_t a_t_s w_t_thrown w_t_image w_t_hasImage w_t_act w_t_open w_t_readMany w_t_readSpan w_t_readSum w_t_readOdds w_t_readBank w_t_readMill w_t_readLevel w_t_levels w_t_boardsNow w_t_ways w_t_nexts w_t_hourNow w_t_staying w_t_leftCard w_t_leftLine w_t_isMute w_t_higher w_t_over w_t_dry w_t_truths w_t_failHours w_t_failRow w_t_keptBoards w_t_keptHung w_t_bodies w_t_ran w_t_kind w_t_number w_t_tellsV  i_t_spot i_t_end i_t_isWrong f_t_s) sz) := by
  refine Met.ofW (cc := cX11_figure) (maxL := 4) (ret := (some .int)) (by decide +kernel) rfl ?_
  intro p e s m args below meth c s₁ B hml hv
  obtain ⟨rfl, hsz, hP, hK, hD0, hX⟩ := hv
  have hx := B.exec
  have hb := B.bytes
  have hr := B.returns
  have hts := atoms_spec (ws := wsX11_figure) B.pre
  have hown : s.vm.findClass RX11 = some m.cls := findClass_of_methodNamed B.named
  have hlocks := B.notSynchronized
  clear B
  subst hsz
  have hD := hD0.self (sz := s.heap.size)
  clear hD0
  generalize hAe : va_A (SX11_figure cyI cyZ cyC a_t a_t_s w_t_thrown w_t_image w_t_hasImage w_t_act w_t_open w_t_readMany w_t_readSpan w_t_readSum w_t_readOdds w_t_readBank w_t_readMill w_t_readLevel w_t_levels w_t_boardsNow w_t_ways w_t_nexts w_t_hourNow w_t_staying w_t_leftCard w_t_leftLine w_t_isMute w_t_higher w_t_over w_t_dry w_t_truths w_t_failHours w_t_failRow w_t_keptBoards w_t_keptHung w_t_bodies w_t_ran w_t_kind w_t_number w_t_tellsV  i_t_spot i_t_end i_t_isWrong f_t_s) s.heap.size = A at hD hX ⊢
  have hA : ∀ q : Nat, s.heap.size ≤ q → A q := fun q h => by rw [← hAe]; exact Or.inr h
  clear hAe
  obtain ⟨H, hH⟩ : ∃ H, H = s.heap := ⟨_, rfl⟩
  rw [← hH] at hP ⊢
  have hS : va_S A s.heap H [] := by rw [hH]; exact va_S.rf
  clear hH
  replace hP : va_P D vwCl [(a_t, .inr (10, [w_t_thrown, .ref a_t_s, w_t_image, w_t_hasImage, w_t_act, .int i_t_spot, .int i_t_end, .int i_t_isWrong, w_t_open, w_t_readMany, w_t_readSpan, w_t_readSum, w_t_readOdds, w_t_readBank, w_t_readMill, w_t_readLevel, w_t_levels, w_t_boardsNow, w_t_ways, w_t_nexts, w_t_hourNow, w_t_staying, w_t_leftCard, w_t_leftLine, w_t_isMute, w_t_higher, w_t_over, w_t_dry, w_t_truths, w_t_failHours, w_t_failRow, w_t_keptBoards, w_t_keptHung, w_t_bodies, w_t_ran, w_t_kind, w_t_number, w_t_tellsV])), (a_t_s, .inl (cyI, 1454, .inl f_t_s))] H := hP
  replace hD : va_D A [(a_t, .inr (10, [w_t_thrown, .ref a_t_s, w_t_image, w_t_hasImage, w_t_act, .int i_t_spot, .int i_t_end, .int i_t_isWrong, w_t_open, w_t_readMany, w_t_readSpan, w_t_readSum, w_t_readOdds, w_t_readBank, w_t_readMill, w_t_readLevel, w_t_levels, w_t_boardsNow, w_t_ways, w_t_nexts, w_t_hourNow, w_t_staying, w_t_leftCard, w_t_leftLine, w_t_isMute, w_t_higher, w_t_over, w_t_dry, w_t_truths, w_t_failHours, w_t_failRow, w_t_keptBoards, w_t_keptHung, w_t_bodies, w_t_ran, w_t_kind, w_t_number, w_t_tellsV])), (a_t_s, .inl (cyI, 1454, .inl f_t_s))] := hD
  have hl := lv_entry ([.ref a_t, .int x1, .int x2]) (n := 4) (Nat.le_of_ble_eq_true rfl)
  rw [lg_entry_eq]
  generalize (lg_sl ([.ref a_t, .int x1, .int x2]) ++ List.replicate (4 - (lg_sl ([.ref a_t, .int x1, .int x2])).length) Slot.unset).toArray = ls at hl ⊢
  replace hl : lv_has ls 4 [(0, .ref a_t), (1, .int x1), (2, .int x2)] := hl
  have B70 : ∀ (x3 : Int32) (s1 : Int32) (s2 : Int32) (i_t_spot : Int32) (i_t_isWrong : Int32), WX11_figure_70 i_t_end f_t_s x3 s1 s2 i_t_spot i_t_isWrong Q  → ∀ (H : Heap) (locs : List Loc), va_P D vwCl [(a_t, .inr (10, [w_t_thrown, .ref a_t_s, w_t_image, w_t_hasImage, w_t_act, .int i_t_spot, .int i_t_end, .int i_t_isWrong, w_t_open, w_t_readMany, w_t_readSpan, w_t_readSum, w_t_readOdds, w_t_readBank, w_t_readMill, w_t_readLevel, w_t_levels, w_t_boardsNow, w_t_ways, w_t_nexts, w_t_hourNow, w_t_staying, w_t_leftCard, w_t_leftLine, w_t_isMute, w_t_higher, w_t_over, w_t_dry, w_t_truths, w_t_failHours, w_t_failRow, w_t_keptBoards, w_t_keptHung, w_t_bodies, w_t_ran, w_t_kind, w_t_number, w_t_tellsV])), (a_t_s, .inl (cyI, 1454, .inl f_t_s))] H → va_D A [(a_t, .inr (10, [w_t_thrown, .ref a_t_s, w_t_image, w_t_hasImage, w_t_act, .int i_t_spot, .int i_t_end, .int i_t_isWrong, w_t_open, w_t_readMany, w_t_readSpan, w_t_readSum, w_t_readOdds, w_t_readBank, w_t_readMill, w_t_readLevel, w_t_levels, w_t_boardsNow, w_t_ways, w_t_nexts, w_t_hourNow, w_t_staying, w_t_leftCard, w_t_leftLine, w_t_isMute, w_t_higher, w_t_over, w_t_dry, w_t_truths, w_t_failHours, w_t_failRow, w_t_keptBoards, w_t_keptHung, w_t_bodies, w_t_ran, w_t_kind, w_t_number, w_t_tellsV])), (a_t_s, .inl (cyI, 1454, .inl f_t_s))] → va_S A s.heap H locs → ∀ (ls : Array Slot), lv_has ls 4 [(3, .int x3)] → W p l e { frames := 1, cells := 0, slots := 0, locals := 22 } s m ([.ref a_t, .int x1, .int x2] : List Value).toArray below meth c H locs 0 0 (MQ below (va_Qi (fun (r : Int32) (u : Int32 × Int32) => Q r u.1 u.2) (fun (u : Int32 × Int32) (t : State) => POST D A (SX11_figure cyI cyZ cyC a_t a_t_s w_t_thrown w_t_image w_t_hasImage w_t_act w_t_open w_t_readMany w_t_readSpan w_t_readSum w_t_readOdds w_t_readBank w_t_readMill w_t_readLevel w_t_levels w_t_boardsNow w_t_ways w_t_nexts w_t_hourNow w_t_staying w_t_leftCard w_t_leftLine w_t_isMute w_t_higher w_t_over w_t_dry w_t_truths w_t_failHours w_t_failRow w_t_keptBoards w_t_keptHung w_t_bodies w_t_ran w_t_kind w_t_number w_t_tellsV  u.1 i_t_end u.2 f_t_s) t) A) ([.ref a_t, .int x1, .int x2] : List Value).toArray s 0 0 A) (F0 m 70 ls [.int s2, .int s1, .ref a_t]) := by
    intro x3 s1 s2 i_t_spot i_t_isWrong hw H locs hP hD hS ls hl
    unfold WX11_figure_70 at hw
    refine lv_iadd hx hb dX11_figure_70 ?_
    refine lv_topi (fun y6 ey6 => ?_)
    replace hw := hw y6 ey6
    refine va_put (D := D) (ci := 10) (v := .int y6) (ty := .int) (C := RX11) (T := TX11) (N := 38) hx hb hts inX11_figure_X11 tyX11 tyX11_ok nmX11 hown hK hP hD hS 0 rfl rfl 5 (by decide) (hts _ (List.mem_of_getElem? (i := 2) rfl)) (fun _ h9 => h9) rfl (tyX11_ok 5 (by decide)) rfl rfl (Nat.le_of_ble_eq_true rfl) dX11_figure_71 (fun H locs hP hD hS => ?_)
    replace hP : va_P D vwCl [(a_t, .inr (10, [w_t_thrown, .ref a_t_s, w_t_image, w_t_hasImage, w_t_act, .int y6, .int i_t_end, .int i_t_isWrong, w_t_open, w_t_readMany, w_t_readSpan, w_t_readSum, w_t_readOdds, w_t_readBank, w_t_readMill, w_t_readLevel, w_t_levels, w_t_boardsNow, w_t_ways, w_t_nexts, w_t_hourNow, w_t_staying, w_t_leftCard, w_t_leftLine, w_t_isMute, w_t_higher, w_t_over, w_t_dry, w_t_truths, w_t_failHours, w_t_failRow, w_t_keptBoards, w_t_keptHung, w_t_bodies, w_t_ran, w_t_kind, w_t_number, w_t_tellsV])), (a_t_s, .inl (cyI, 1454, .inl f_t_s))] H := hP
    replace hD : va_D A [(a_t, .inr (10, [w_t_thrown, .ref a_t_s, w_t_image, w_t_hasImage, w_t_act, .int y6, .int i_t_end, .int i_t_isWrong, w_t_open, w_t_readMany, w_t_readSpan, w_t_readSum, w_t_readOdds, w_t_readBank, w_t_readMill, w_t_readLevel, w_t_levels, w_t_boardsNow, w_t_ways, w_t_nexts, w_t_hourNow, w_t_staying, w_t_leftCard, w_t_leftLine, w_t_isMute, w_t_higher, w_t_over, w_t_dry, w_t_truths, w_t_failHours, w_t_failRow, w_t_keptBoards, w_t_keptHung, w_t_bodies, w_t_ran, w_t_kind, w_t_number, w_t_tellsV])), (a_t_s, .inl (cyI, 1454, .inl f_t_s))] := hD
    refine lv_iload_n hx hb dX11_figure_74 rfl (lv_at hl 0 rfl) ?_
    exact W.iret (v := x3) hx hb hr (fun t ht hW => ⟨⟨x3, (y6, i_t_isWrong), rfl, hw, post_mk ht hP hD⟩, hS.F ht⟩) hS.2.2 dX11_figure_75 hlocks
  have B52 : ∀ (s0 : Int32) (i_t_spot : Int32) (i_t_isWrong : Int32), WX11_figure_52 i_t_end f_t_s s0 i_t_spot i_t_isWrong Q  → ∀ (H : Heap) (locs : List Loc), va_P D vwCl [(a_t, .inr (10, [w_t_thrown, .ref a_t_s, w_t_image, w_t_hasImage, w_t_act, .int i_t_spot, .int i_t_end, .int i_t_isWrong, w_t_open, w_t_readMany, w_t_readSpan, w_t_readSum, w_t_readOdds, w_t_readBank, w_t_readMill, w_t_readLevel, w_t_levels, w_t_boardsNow, w_t_ways, w_t_nexts, w_t_hourNow, w_t_staying, w_t_leftCard, w_t_leftLine, w_t_isMute, w_t_higher, w_t_over, w_t_dry, w_t_truths, w_t_failHours, w_t_failRow, w_t_keptBoards, w_t_keptHung, w_t_bodies, w_t_ran, w_t_kind, w_t_number, w_t_tellsV])), (a_t_s, .inl (cyI, 1454, .inl f_t_s))] H → va_D A [(a_t, .inr (10, [w_t_thrown, .ref a_t_s, w_t_image, w_t_hasImage, w_t_act, .int i_t_spot, .int i_t_end, .int i_t_isWrong, w_t_open, w_t_readMany, w_t_readSpan, w_t_readSum, w_t_readOdds, w_t_readBank, w_t_readMill, w_t_readLevel, w_t_levels, w_t_boardsNow, w_t_ways, w_t_nexts, w_t_hourNow, w_t_staying, w_t_leftCard, w_t_leftLine, w_t_isMute, w_t_higher, w_t_over, w_t_dry, w_t_truths, w_t_failHours, w_t_failRow, w_t_keptBoards, w_t_keptHung, w_t_bodies, w_t_ran, w_t_kind, w_t_number, w_t_tellsV])), (a_t_s, .inl (cyI, 1454, .inl f_t_s))] → va_S A s.heap H locs → ∀ (ls : Array Slot), lv_has ls 4 [(0, .ref a_t)] → W p l e { frames := 1, cells := 0, slots := 0, locals := 22 } s m ([.ref a_t, .int x1, .int x2] : List Value).toArray below meth c H locs 0 0 (MQ below (va_Qi (fun (r : Int32) (u : Int32 × Int32) => Q r u.1 u.2) (fun (u : Int32 × Int32) (t : State) => POST D A (SX11_figure cyI cyZ cyC a_t a_t_s w_t_thrown w_t_image w_t_hasImage w_t_act w_t_open w_t_readMany w_t_readSpan w_t_readSum w_t_readOdds w_t_readBank w_t_readMill w_t_readLevel w_t_levels w_t_boardsNow w_t_ways w_t_nexts w_t_hourNow w_t_staying w_t_leftCard w_t_leftLine w_t_isMute w_t_higher w_t_over w_t_dry w_t_truths w_t_failHours w_t_failRow w_t_keptBoards w_t_keptHung w_t_bodies w_t_ran w_t_kind w_t_number w_t_tellsV  u.1 i_t_end u.2 f_t_s) t) A) ([.ref a_t, .int x1, .int x2] : List Value).toArray s 0 0 A) (F0 m 52 ls [.int s0]) := by
    intro s0 i_t_spot i_t_isWrong hw H locs hP hD hS ls hl
    unfold WX11_figure_52 at hw
    refine lv_istore_n (lv' := [(3, .int s0), (0, .ref a_t)]) hx hb dX11_figure_52 rfl hl (by decide) rfl (fun ls hl => ?_)
    refine lv_aload_n hx hb dX11_figure_53 rfl (lv_at hl 1 rfl) ?_
    refine lv_dup hx hb dX11_figure_54 rfl ?_
    refine va_get (D := D) (ci := 10) (v := .int i_t_spot) (C := RX11) (T := TX11) (N := 38) hx hb hts inX11_figure_X11 hown hK hP 0 rfl rfl 5 (by decide) (hts _ (List.mem_of_getElem? (i := 2) rfl)) (fun _ h9 => h9) rfl dX11_figure_55 ?_
    refine lv_aload_n hx hb dX11_figure_58 rfl (lv_at hl 1 rfl) ?_
    refine va_get (D := D) (ci := 10) (v := .int i_t_isWrong) (C := RX11) (T := TX11) (N := 38) hx hb hts inX11_figure_X11 hown hK hP 0 rfl rfl 7 (by decide) (hts _ (List.mem_of_getElem? (i := 1) rfl)) (fun _ h9 => h9) rfl dX11_figure_59 ?_
    refine lv_if_eq (tgt := 69) hx hb dX11_figure_62 (by decide) (fun c5 => ?_) (fun c5 => ?_)
    · replace hw := hw.1 c5
      refine lv_iconst (v := 1) hx hb dX11_figure_69 (by decide) ?_
      exact B70 s0 i_t_spot 1 i_t_spot i_t_isWrong hw _ _ hP hD hS _ (lv_sub hl [0] rfl)
    · replace hw := hw.2 c5
      refine lv_iconst (v := 0) hx hb dX11_figure_65 (by decide) ?_
      refine lv_goto (tgt := 70) hx hb dX11_figure_66 (by decide) ?_
      exact B70 s0 i_t_spot 0 i_t_spot i_t_isWrong hw _ _ hP hD hS _ (lv_sub hl [0] rfl)
  have B31 : ∀ (s1 : Int32) (i_t_spot : Int32) (i_t_isWrong : Int32), WX11_figure_31 i_t_end f_t_s s1 i_t_spot i_t_isWrong Q  → ∀ (H : Heap) (locs : List Loc), va_P D vwCl [(a_t, .inr (10, [w_t_thrown, .ref a_t_s, w_t_image, w_t_hasImage, w_t_act, .int i_t_spot, .int i_t_end, .int i_t_isWrong, w_t_open, w_t_readMany, w_t_readSpan, w_t_readSum, w_t_readOdds, w_t_readBank, w_t_readMill, w_t_readLevel, w_t_levels, w_t_boardsNow, w_t_ways, w_t_nexts, w_t_hourNow, w_t_staying, w_t_leftCard, w_t_leftLine, w_t_isMute, w_t_higher, w_t_over, w_t_dry, w_t_truths, w_t_failHours, w_t_failRow, w_t_keptBoards, w_t_keptHung, w_t_bodies, w_t_ran, w_t_kind, w_t_number, w_t_tellsV])), (a_t_s, .inl (cyI, 1454, .inl f_t_s))] H → va_D A [(a_t, .inr (10, [w_t_thrown, .ref a_t_s, w_t_image, w_t_hasImage, w_t_act, .int i_t_spot, .int i_t_end, .int i_t_isWrong, w_t_open, w_t_readMany, w_t_readSpan, w_t_readSum, w_t_readOdds, w_t_readBank, w_t_readMill, w_t_readLevel, w_t_levels, w_t_boardsNow, w_t_ways, w_t_nexts, w_t_hourNow, w_t_staying, w_t_leftCard, w_t_leftLine, w_t_isMute, w_t_higher, w_t_over, w_t_dry, w_t_truths, w_t_failHours, w_t_failRow, w_t_keptBoards, w_t_keptHung, w_t_bodies, w_t_ran, w_t_kind, w_t_number, w_t_tellsV])), (a_t_s, .inl (cyI, 1454, .inl f_t_s))] → va_S A s.heap H locs → ∀ (ls : Array Slot), lv_has ls 4 [(0, .ref a_t)] → W p l e { frames := 1, cells := 0, slots := 0, locals := 22 } s m ([.ref a_t, .int x1, .int x2] : List Value).toArray below meth c H locs 0 0 (MQ below (va_Qi (fun (r : Int32) (u : Int32 × Int32) => Q r u.1 u.2) (fun (u : Int32 × Int32) (t : State) => POST D A (SX11_figure cyI cyZ cyC a_t a_t_s w_t_thrown w_t_image w_t_hasImage w_t_act w_t_open w_t_readMany w_t_readSpan w_t_readSum w_t_readOdds w_t_readBank w_t_readMill w_t_readLevel w_t_levels w_t_boardsNow w_t_ways w_t_nexts w_t_hourNow w_t_staying w_t_leftCard w_t_leftLine w_t_isMute w_t_higher w_t_over w_t_dry w_t_truths w_t_failHours w_t_failRow w_t_keptBoards w_t_keptHung w_t_bodies w_t_ran w_t_kind w_t_number w_t_tellsV  u.1 i_t_end u.2 f_t_s) t) A) ([.ref a_t, .int x1, .int x2] : List Value).toArray s 0 0 A) (F0 m 31 ls [.int s1, .ref a_t]) := by
    intro s1 i_t_spot i_t_isWrong hw H locs hP hD hS ls hl
    unfold WX11_figure_31 at hw
    have h2 := hw.1
    replace hw := hw.2
    refine va_put (D := D) (ci := 10) (v := .int s1) (ty := .boolean) (C := RX11) (T := TX11) (N := 38) hx hb hts inX11_figure_X11 tyX11 tyX11_ok nmX11 hown hK hP hD hS 0 rfl rfl 7 (by decide) (hts _ (List.mem_of_getElem? (i := 1) rfl)) (fun _ h9 => h9) rfl (tyX11_ok 7 (by decide)) (isB_nar h2) (isB_fit h2) (Nat.le_of_ble_eq_true rfl) dX11_figure_31 (fun H locs hP hD hS => ?_)
    replace hP : va_P D vwCl [(a_t, .inr (10, [w_t_thrown, .ref a_t_s, w_t_image, w_t_hasImage, w_t_act, .int i_t_spot, .int i_t_end, .int s1, w_t_open, w_t_readMany, w_t_readSpan, w_t_readSum, w_t_readOdds, w_t_readBank, w_t_readMill, w_t_readLevel, w_t_levels, w_t_boardsNow, w_t_ways, w_t_nexts, w_t_hourNow, w_t_staying, w_t_leftCard, w_t_leftLine, w_t_isMute, w_t_higher, w_t_over, w_t_dry, w_t_truths, w_t_failHours, w_t_failRow, w_t_keptBoards, w_t_keptHung, w_t_bodies, w_t_ran, w_t_kind, w_t_number, w_t_tellsV])), (a_t_s, .inl (cyI, 1454, .inl f_t_s))] H := hP
    replace hD : va_D A [(a_t, .inr (10, [w_t_thrown, .ref a_t_s, w_t_image, w_t_hasImage, w_t_act, .int i_t_spot, .int i_t_end, .int s1, w_t_open, w_t_readMany, w_t_readSpan, w_t_readSum, w_t_readOdds, w_t_readBank, w_t_readMill, w_t_readLevel, w_t_levels, w_t_boardsNow, w_t_ways, w_t_nexts, w_t_hourNow, w_t_staying, w_t_leftCard, w_t_leftLine, w_t_isMute, w_t_higher, w_t_over, w_t_dry, w_t_truths, w_t_failHours, w_t_failRow, w_t_keptBoards, w_t_keptHung, w_t_bodies, w_t_ran, w_t_kind, w_t_number, w_t_tellsV])), (a_t_s, .inl (cyI, 1454, .inl f_t_s))] := hD
    refine lv_aload_n hx hb dX11_figure_34 rfl (lv_at hl 0 rfl) ?_
    refine va_get (D := D) (ci := 10) (v := .int s1) (C := RX11) (T := TX11) (N := 38) hx hb hts inX11_figure_X11 hown hK hP 0 rfl rfl 7 (by decide) (hts _ (List.mem_of_getElem? (i := 1) rfl)) (fun _ h9 => h9) rfl dX11_figure_35 ?_
    refine lv_if_eq (tgt := 45) hx hb dX11_figure_38 (by decide) (fun c3 => ?_) (fun c3 => ?_)
    · replace hw := hw.1 c3
      refine lv_aload_n hx hb dX11_figure_45 rfl (lv_at hl 0 rfl) ?_
      obtain ⟨QK, eQ, hq⟩ := genq (P := WX11_here i_t_spot i_t_end f_t_s) hw
      clear hw
      have hPc := hP.sub (ws' := [(a_t, .inr (10, [w_t_thrown, .ref a_t_s, w_t_image, w_t_hasImage, w_t_act, .int i_t_spot, .int i_t_end, .int s1, w_t_open, w_t_readMany, w_t_readSpan, w_t_readSum, w_t_readOdds, w_t_readBank, w_t_readMill, w_t_readLevel, w_t_levels, w_t_boardsNow, w_t_ways, w_t_nexts, w_t_hourNow, w_t_staying, w_t_leftCard, w_t_leftLine, w_t_isMute, w_t_higher, w_t_over, w_t_dry, w_t_truths, w_t_failHours, w_t_failRow, w_t_keptBoards, w_t_keptHung, w_t_bodies, w_t_ran, w_t_kind, w_t_number, w_t_tellsV])), (a_t_s, .inl (cyI, 1454, .inl f_t_s))]) [0, 1] rfl
      have hDc := hD.sub (ws' := [(a_t, .inr (10, [w_t_thrown, .ref a_t_s, w_t_image, w_t_hasImage, w_t_act, .int i_t_spot, .int i_t_end, .int s1, w_t_open, w_t_readMany, w_t_readSpan, w_t_readSum, w_t_readOdds, w_t_readBank, w_t_readMill, w_t_readLevel, w_t_levels, w_t_boardsNow, w_t_ways, w_t_nexts, w_t_hourNow, w_t_staying, w_t_leftCard, w_t_leftLine, w_t_isMute, w_t_higher, w_t_over, w_t_dry, w_t_truths, w_t_failHours, w_t_failRow, w_t_keptBoards, w_t_keptHung, w_t_bodies, w_t_ran, w_t_kind, w_t_number, w_t_tellsV])), (a_t_s, .inl (cyI, 1454, .inl f_t_s))]) [0, 1] (by decide) rfl
      have hFc := va_free (wc := [(a_t, .inr (10, [w_t_thrown, .ref a_t_s, w_t_image, w_t_hasImage, w_t_act, .int i_t_spot, .int i_t_end, .int s1, w_t_open, w_t_readMany, w_t_readSpan, w_t_readSum, w_t_readOdds, w_t_readBank, w_t_readMill, w_t_readLevel, w_t_levels, w_t_boardsNow, w_t_ways, w_t_nexts, w_t_hourNow, w_t_staying, w_t_leftCard, w_t_leftLine, w_t_isMute, w_t_higher, w_t_over, w_t_dry, w_t_truths, w_t_failHours, w_t_failRow, w_t_keptBoards, w_t_keptHung, w_t_bodies, w_t_ran, w_t_kind, w_t_number, w_t_tellsV])), (a_t_s, .inl (cyI, 1454, .inl f_t_s))]) hD hS hA [0, 1] rfl
      refine va_calli (va_runV (As := []) (rest := []) ⟨hx, hb, hml, hown, hts⟩ (MX11_here l D cyI cyZ cyC ro ce cin ad a_t a_t_s  (w_t_thrown) (w_t_image) (w_t_hasImage) (w_t_act) (.int s1) (w_t_open) (w_t_readMany) (w_t_readSpan) (w_t_readSum) (w_t_readOdds) (w_t_readBank) (w_t_readMill) (w_t_readLevel) (w_t_levels) (w_t_boardsNow) (w_t_ways) (w_t_nexts) (w_t_hourNow) (w_t_staying) (w_t_leftCard) (w_t_leftLine) (w_t_isMute) (w_t_higher) (w_t_over) (w_t_dry) (w_t_truths) (w_t_failHours) (w_t_failRow) (w_t_keptBoards) (w_t_keptHung) (w_t_bodies) (w_t_ran) (w_t_kind) (w_t_number) (w_t_tellsV) H.size i_t_spot i_t_end f_t_s QK  hq) (cwV 0 hts gX11_figure_X11_here rfl rfl rfl ⟨rfl, dmX11_here⟩ ⟨Nat.le_of_ble_eq_true rfl, Nat.le_of_ble_eq_true rfl⟩) ⟨pre_bl, va_recv hK hPc (ci := 10) (q0 := 0) rfl rfl, fun U hU hW => ⟨rfl, pre_of hX hS hK hPc hDc hFc hU hW⟩⟩ rfl rfl hl.1 rfl (lv_room (Nat.le_of_ble_eq_true rfl)) dX11_figure_46 ⟨Nat.zero_le _, Nat.zero_le _⟩) hS (fun q _ h => hFc q h) hFc (fun r4 u t H1 locs ht hvm hw hB hz1 hk1 hS => ?_)
      replace hw : QK r4 := hw
      clear hq
      subst eQ
      obtain ⟨hP1, hD1⟩ := hB
      rw [ht] at hP1
      obtain ⟨hP, hD⟩ := va_join (wr := []) (w1 := [(a_t, .inr (10, [w_t_thrown, .ref a_t_s, w_t_image, w_t_hasImage, w_t_act, .int i_t_spot, .int i_t_end, .int s1, w_t_open, w_t_readMany, w_t_readSpan, w_t_readSum, w_t_readOdds, w_t_readBank, w_t_readMill, w_t_readLevel, w_t_levels, w_t_boardsNow, w_t_ways, w_t_nexts, w_t_hourNow, w_t_staying, w_t_leftCard, w_t_leftLine, w_t_isMute, w_t_higher, w_t_over, w_t_dry, w_t_truths, w_t_failHours, w_t_failRow, w_t_keptBoards, w_t_keptHung, w_t_bodies, w_t_ran, w_t_kind, w_t_number, w_t_tellsV])), (a_t_s, .inl (cyI, 1454, .inl f_t_s))]) hP hD [0, 1] [] rfl rfl (by decide) (by decide) hk1 hFc hP1 hD1
      clear hPc hDc hFc hk1 hz1 hP1 hD1 ht hvm
      generalize H1 = H at hP hS ⊢
      replace hP : va_P D vwCl [(a_t, .inr (10, [w_t_thrown, .ref a_t_s, w_t_image, w_t_hasImage, w_t_act, .int i_t_spot, .int i_t_end, .int s1, w_t_open, w_t_readMany, w_t_readSpan, w_t_readSum, w_t_readOdds, w_t_readBank, w_t_readMill, w_t_readLevel, w_t_levels, w_t_boardsNow, w_t_ways, w_t_nexts, w_t_hourNow, w_t_staying, w_t_leftCard, w_t_leftLine, w_t_isMute, w_t_higher, w_t_over, w_t_dry, w_t_truths, w_t_failHours, w_t_failRow, w_t_keptBoards, w_t_keptHung, w_t_bodies, w_t_ran, w_t_kind, w_t_number, w_t_tellsV])), (a_t_s, .inl (cyI, 1454, .inl f_t_s))] H := hP
      replace hD : va_D A [(a_t, .inr (10, [w_t_thrown, .ref a_t_s, w_t_image, w_t_hasImage, w_t_act, .int i_t_spot, .int i_t_end, .int s1, w_t_open, w_t_readMany, w_t_readSpan, w_t_readSum, w_t_readOdds, w_t_readBank, w_t_readMill, w_t_readLevel, w_t_levels, w_t_boardsNow, w_t_ways, w_t_nexts, w_t_hourNow, w_t_staying, w_t_leftCard, w_t_leftLine, w_t_isMute, w_t_higher, w_t_over, w_t_dry, w_t_truths, w_t_failHours, w_t_failRow, w_t_keptBoards, w_t_keptHung, w_t_bodies, w_t_ran, w_t_kind, w_t_number, w_t_tellsV])), (a_t_s, .inl (cyI, 1454, .inl f_t_s))] := hD
      refine lv_bipush (v := 48) hx hb dX11_figure_49 (by decide) ?_
      refine lv_isub hx hb dX11_figure_51 ?_
      exact B52 (r4 - 48) i_t_spot s1 hw _ _ hP hD hS _ (lv_sub hl [0] rfl)
    · replace hw := hw.2 c3
      refine lv_iconst (v := 0) hx hb dX11_figure_41 (by decide) ?_
      refine lv_goto (tgt := 52) hx hb dX11_figure_42 (by decide) ?_
      exact B52 0 i_t_spot s1 hw _ _ hP hD hS _ (lv_sub hl [0] rfl)
  have B26 : ∀ (i_t_spot : Int32) (i_t_isWrong : Int32), WX11_figure_26 i_t_end f_t_s i_t_spot i_t_isWrong Q  → ∀ (H : Heap) (locs : List Loc), va_P D vwCl [(a_t, .inr (10, [w_t_thrown, .ref a_t_s, w_t_image, w_t_hasImage, w_t_act, .int i_t_spot, .int i_t_end, .int i_t_isWrong, w_t_open, w_t_readMany, w_t_readSpan, w_t_readSum, w_t_readOdds, w_t_readBank, w_t_readMill, w_t_readLevel, w_t_levels, w_t_boardsNow, w_t_ways, w_t_nexts, w_t_hourNow, w_t_staying, w_t_leftCard, w_t_leftLine, w_t_isMute, w_t_higher, w_t_over, w_t_dry, w_t_truths, w_t_failHours, w_t_failRow, w_t_keptBoards, w_t_keptHung, w_t_bodies, w_t_ran, w_t_kind, w_t_number, w_t_tellsV])), (a_t_s, .inl (cyI, 1454, .inl f_t_s))] H → va_D A [(a_t, .inr (10, [w_t_thrown, .ref a_t_s, w_t_image, w_t_hasImage, w_t_act, .int i_t_spot, .int i_t_end, .int i_t_isWrong, w_t_open, w_t_readMany, w_t_readSpan, w_t_readSum, w_t_readOdds, w_t_readBank, w_t_readMill, w_t_readLevel, w_t_levels, w_t_boardsNow, w_t_ways, w_t_nexts, w_t_hourNow, w_t_staying, w_t_leftCard, w_t_leftLine, w_t_isMute, w_t_higher, w_t_over, w_t_dry, w_t_truths, w_t_failHours, w_t_failRow, w_t_keptBoards, w_t_keptHung, w_t_bodies, w_t_ran, w_t_kind, w_t_number, w_t_tellsV])), (a_t_s, .inl (cyI, 1454, .inl f_t_s))] → va_S A s.heap H locs → ∀ (ls : Array Slot), lv_has ls 4 [(0, .ref a_t)] → W p l e { frames := 1, cells := 0, slots := 0, locals := 22 } s m ([.ref a_t, .int x1, .int x2] : List Value).toArray below meth c H locs 0 0 (MQ below (va_Qi (fun (r : Int32) (u : Int32 × Int32) => Q r u.1 u.2) (fun (u : Int32 × Int32) (t : State) => POST D A (SX11_figure cyI cyZ cyC a_t a_t_s w_t_thrown w_t_image w_t_hasImage w_t_act w_t_open w_t_readMany w_t_readSpan w_t_readSum w_t_readOdds w_t_readBank w_t_readMill w_t_readLevel w_t_levels w_t_boardsNow w_t_ways w_t_nexts w_t_hourNow w_t_staying w_t_leftCard w_t_leftLine w_t_isMute w_t_higher w_t_over w_t_dry w_t_truths w_t_failHours w_t_failRow w_t_keptBoards w_t_keptHung w_t_bodies w_t_ran w_t_kind w_t_number w_t_tellsV  u.1 i_t_end u.2 f_t_s) t) A) ([.ref a_t, .int x1, .int x2] : List Value).toArray s 0 0 A) (F0 m 26 ls [.ref a_t]) := by
    intro i_t_spot i_t_isWrong hw H locs hP hD hS ls hl
    unfold WX11_figure_26 at hw
    refine lv_iconst (v := 1) hx hb dX11_figure_26 (by decide) ?_
    refine lv_goto (tgt := 31) hx hb dX11_figure_27 (by decide) ?_
    exact B31 1 i_t_spot i_t_isWrong hw _ _ hP hD hS _ (lv_sub hl [0] rfl)
  unfold WX11_figure at hw
  refine lv_aload_n hx hb dX11_figure_0 rfl (lv_at hl 0 rfl) ?_
  refine lv_aload_n hx hb dX11_figure_1 rfl (lv_at hl 0 rfl) ?_
  refine va_get (D := D) (ci := 10) (v := .int i_t_isWrong) (C := RX11) (T := TX11) (N := 38) hx hb hts inX11_figure_X11 hown hK hP 0 rfl rfl 7 (by decide) (hts _ (List.mem_of_getElem? (i := 1) rfl)) (fun _ h9 => h9) rfl dX11_figure_2 ?_
  refine lv_if_ne (tgt := 26) hx hb dX11_figure_5 (by decide) (fun c1 => ?_) (fun c1 => ?_)
  · replace hw := hw.2 c1
    exact B26 i_t_spot i_t_isWrong hw _ _ hP hD hS _ (lv_sub hl [0] rfl)
  · replace hw := hw.1 c1
    refine lv_aload_n hx hb dX11_figure_8 rfl (lv_at hl 0 rfl) ?_
    obtain ⟨QK, eQ, hq⟩ := genq (P := WX11_here i_t_spot i_t_end f_t_s) hw
    clear hw
    have hPc := hP.sub (ws' := [(a_t, .inr (10, [w_t_thrown, .ref a_t_s, w_t_image, w_t_hasImage, w_t_act, .int i_t_spot, .int i_t_end, .int i_t_isWrong, w_t_open, w_t_readMany, w_t_readSpan, w_t_readSum, w_t_readOdds, w_t_readBank, w_t_readMill, w_t_readLevel, w_t_levels, w_t_boardsNow, w_t_ways, w_t_nexts, w_t_hourNow, w_t_staying, w_t_leftCard, w_t_leftLine, w_t_isMute, w_t_higher, w_t_over, w_t_dry, w_t_truths, w_t_failHours, w_t_failRow, w_t_keptBoards, w_t_keptHung, w_t_bodies, w_t_ran, w_t_kind, w_t_number, w_t_tellsV])), (a_t_s, .inl (cyI, 1454, .inl f_t_s))]) [0, 1] rfl
    have hDc := hD.sub (ws' := [(a_t, .inr (10, [w_t_thrown, .ref a_t_s, w_t_image, w_t_hasImage, w_t_act, .int i_t_spot, .int i_t_end, .int i_t_isWrong, w_t_open, w_t_readMany, w_t_readSpan, w_t_readSum, w_t_readOdds, w_t_readBank, w_t_readMill, w_t_readLevel, w_t_levels, w_t_boardsNow, w_t_ways, w_t_nexts, w_t_hourNow, w_t_staying, w_t_leftCard, w_t_leftLine, w_t_isMute, w_t_higher, w_t_over, w_t_dry, w_t_truths, w_t_failHours, w_t_failRow, w_t_keptBoards, w_t_keptHung, w_t_bodies, w_t_ran, w_t_kind, w_t_number, w_t_tellsV])), (a_t_s, .inl (cyI, 1454, .inl f_t_s))]) [0, 1] (by decide) rfl
    have hFc := va_free (wc := [(a_t, .inr (10, [w_t_thrown, .ref a_t_s, w_t_image, w_t_hasImage, w_t_act, .int i_t_spot, .int i_t_end, .int i_t_isWrong, w_t_open, w_t_readMany, w_t_readSpan, w_t_readSum, w_t_readOdds, w_t_readBank, w_t_readMill, w_t_readLevel, w_t_levels, w_t_boardsNow, w_t_ways, w_t_nexts, w_t_hourNow, w_t_staying, w_t_leftCard, w_t_leftLine, w_t_isMute, w_t_higher, w_t_over, w_t_dry, w_t_truths, w_t_failHours, w_t_failRow, w_t_keptBoards, w_t_keptHung, w_t_bodies, w_t_ran, w_t_kind, w_t_number, w_t_tellsV])), (a_t_s, .inl (cyI, 1454, .inl f_t_s))]) hD hS hA [0, 1] rfl
    refine va_calli (va_runV (As := []) (rest := [.ref a_t]) ⟨hx, hb, hml, hown, hts⟩ (MX11_here l D cyI cyZ cyC ro ce cin ad a_t a_t_s  (w_t_thrown) (w_t_image) (w_t_hasImage) (w_t_act) (.int i_t_isWrong) (w_t_open) (w_t_readMany) (w_t_readSpan) (w_t_readSum) (w_t_readOdds) (w_t_readBank) (w_t_readMill) (w_t_readLevel) (w_t_levels) (w_t_boardsNow) (w_t_ways) (w_t_nexts) (w_t_hourNow) (w_t_staying) (w_t_leftCard) (w_t_leftLine) (w_t_isMute) (w_t_higher) (w_t_over) (w_t_dry) (w_t_truths) (w_t_failHours) (w_t_failRow) (w_t_keptBoards) (w_t_keptHung) (w_t_bodies) (w_t_ran) (w_t_kind) (w_t_number) (w_t_tellsV) H.size i_t_spot i_t_end f_t_s QK  hq) (cwV 0 hts gX11_figure_X11_here rfl rfl rfl ⟨rfl, dmX11_here⟩ ⟨Nat.le_of_ble_eq_true rfl, Nat.le_of_ble_eq_true rfl⟩) ⟨pre_bl, va_recv hK hPc (ci := 10) (q0 := 0) rfl rfl, fun U hU hW => ⟨rfl, pre_of hX hS hK hPc hDc hFc hU hW⟩⟩ rfl rfl hl.1 rfl (lv_room (Nat.le_of_ble_eq_true rfl)) dX11_figure_9 ⟨Nat.zero_le _, Nat.zero_le _⟩) hS (fun q _ h => hFc q h) hFc (fun r7 u t H1 locs ht hvm hw hB hz1 hk1 hS => ?_)
    replace hw : QK r7 := hw
    clear hq
    subst eQ
    obtain ⟨hP1, hD1⟩ := hB
    rw [ht] at hP1
    obtain ⟨hP, hD⟩ := va_join (wr := []) (w1 := [(a_t, .inr (10, [w_t_thrown, .ref a_t_s, w_t_image, w_t_hasImage, w_t_act, .int i_t_spot, .int i_t_end, .int i_t_isWrong, w_t_open, w_t_readMany, w_t_readSpan, w_t_readSum, w_t_readOdds, w_t_readBank, w_t_readMill, w_t_readLevel, w_t_levels, w_t_boardsNow, w_t_ways, w_t_nexts, w_t_hourNow, w_t_staying, w_t_leftCard, w_t_leftLine, w_t_isMute, w_t_higher, w_t_over, w_t_dry, w_t_truths, w_t_failHours, w_t_failRow, w_t_keptBoards, w_t_keptHung, w_t_bodies, w_t_ran, w_t_kind, w_t_number, w_t_tellsV])), (a_t_s, .inl (cyI, 1454, .inl f_t_s))]) hP hD [0, 1] [] rfl rfl (by decide) (by decide) hk1 hFc hP1 hD1
    clear hPc hDc hFc hk1 hz1 hP1 hD1 ht hvm
    generalize H1 = H at hP hS ⊢
    replace hP : va_P D vwCl [(a_t, .inr (10, [w_t_thrown, .ref a_t_s, w_t_image, w_t_hasImage, w_t_act, .int i_t_spot, .int i_t_end, .int i_t_isWrong, w_t_open, w_t_readMany, w_t_readSpan, w_t_readSum, w_t_readOdds, w_t_readBank, w_t_readMill, w_t_readLevel, w_t_levels, w_t_boardsNow, w_t_ways, w_t_nexts, w_t_hourNow, w_t_staying, w_t_leftCard, w_t_leftLine, w_t_isMute, w_t_higher, w_t_over, w_t_dry, w_t_truths, w_t_failHours, w_t_failRow, w_t_keptBoards, w_t_keptHung, w_t_bodies, w_t_ran, w_t_kind, w_t_number, w_t_tellsV])), (a_t_s, .inl (cyI, 1454, .inl f_t_s))] H := hP
    replace hD : va_D A [(a_t, .inr (10, [w_t_thrown, .ref a_t_s, w_t_image, w_t_hasImage, w_t_act, .int i_t_spot, .int i_t_end, .int i_t_isWrong, w_t_open, w_t_readMany, w_t_readSpan, w_t_readSum, w_t_readOdds, w_t_readBank, w_t_readMill, w_t_readLevel, w_t_levels, w_t_boardsNow, w_t_ways, w_t_nexts, w_t_hourNow, w_t_staying, w_t_leftCard, w_t_leftLine, w_t_isMute, w_t_higher, w_t_over, w_t_dry, w_t_truths, w_t_failHours, w_t_failRow, w_t_keptBoards, w_t_keptHung, w_t_bodies, w_t_ran, w_t_kind, w_t_number, w_t_tellsV])), (a_t_s, .inl (cyI, 1454, .inl f_t_s))] := hD
    refine lv_bipush (v := 48) hx hb dX11_figure_12 (by decide) ?_
    refine lv_iload_n hx hb dX11_figure_14 rfl (lv_at hl 1 rfl) ?_
    refine lv_iadd hx hb dX11_figure_15 ?_
    refine lv_bipush (v := 48) hx hb dX11_figure_16 (by decide) ?_
    refine lv_iload_n hx hb dX11_figure_18 rfl (lv_at hl 2 rfl) ?_
    refine lv_iadd hx hb dX11_figure_19 ?_
    obtain ⟨QK, eQ, hq⟩ := genq (P := WX11_in r7 (48 + x1) (48 + x2)) hw
    clear hw
    have hPc := hP.sub (ws' := []) [] rfl
    have hDc := hD.sub (ws' := []) [] (by decide) rfl
    have hFc := va_free (wc := []) hD hS hA [] rfl
    refine va_calli (va_runS (As := [.int r7, .int (48 + x1), .int (48 + x2)]) (rest := [.ref a_t]) ⟨hx, hb, hml, hown, hts⟩ (MX11_in l D cyI cyZ cyC ro ce cin ad    H.size r7 (48 + x1) (48 + x2) QK  hq) (va_cwS 3 hts gX11_figure_X11_in rfl rfl rfl dmX11_in ⟨Nat.le_of_ble_eq_true rfl, Nat.le_of_ble_eq_true rfl⟩) ⟨pre_bl, fun U hU hW => ⟨rfl, pre_of hX hS hK hPc hDc hFc hU hW⟩⟩ rfl rfl hl.1 rfl (lv_room (Nat.le_of_ble_eq_true rfl)) dX11_figure_20 ⟨Nat.zero_le _, Nat.zero_le _⟩) hS (fun q _ h => hFc q h) hFc (fun r8 u t H1 locs ht hvm hw hB hz1 hk1 hS => ?_)
    replace hw : QK r8 := hw
    clear hq
    subst eQ
    obtain ⟨hP1, hD1⟩ := hB
    rw [ht] at hP1
    obtain ⟨hP, hD⟩ := va_join (wr := [(a_t, .inr (10, [w_t_thrown, .ref a_t_s, w_t_image, w_t_hasImage, w_t_act, .int i_t_spot, .int i_t_end, .int i_t_isWrong, w_t_open, w_t_readMany, w_t_readSpan, w_t_readSum, w_t_readOdds, w_t_readBank, w_t_readMill, w_t_readLevel, w_t_levels, w_t_boardsNow, w_t_ways, w_t_nexts, w_t_hourNow, w_t_staying, w_t_leftCard, w_t_leftLine, w_t_isMute, w_t_higher, w_t_over, w_t_dry, w_t_truths, w_t_failHours, w_t_failRow, w_t_keptBoards, w_t_keptHung, w_t_bodies, w_t_ran, w_t_kind, w_t_number, w_t_tellsV])), (a_t_s, .inl (cyI, 1454, .inl f_t_s))]) (w1 := []) hP hD [] [0, 1] rfl rfl (by decide) (by decide) hk1 hFc hP1 hD1
    clear hPc hDc hFc hk1 hz1 hP1 hD1 ht hvm
    generalize H1 = H at hP hS ⊢
    replace hP : va_P D vwCl [(a_t, .inr (10, [w_t_thrown, .ref a_t_s, w_t_image, w_t_hasImage, w_t_act, .int i_t_spot, .int i_t_end, .int i_t_isWrong, w_t_open, w_t_readMany, w_t_readSpan, w_t_readSum, w_t_readOdds, w_t_readBank, w_t_readMill, w_t_readLevel, w_t_levels, w_t_boardsNow, w_t_ways, w_t_nexts, w_t_hourNow, w_t_staying, w_t_leftCard, w_t_leftLine, w_t_isMute, w_t_higher, w_t_over, w_t_dry, w_t_truths, w_t_failHours, w_t_failRow, w_t_keptBoards, w_t_keptHung, w_t_bodies, w_t_ran, w_t_kind, w_t_number, w_t_tellsV])), (a_t_s, .inl (cyI, 1454, .inl f_t_s))] H := hP
    replace hD : va_D A [(a_t, .inr (10, [w_t_thrown, .ref a_t_s, w_t_image, w_t_hasImage, w_t_act, .int i_t_spot, .int i_t_end, .int i_t_isWrong, w_t_open, w_t_readMany, w_t_readSpan, w_t_readSum, w_t_readOdds, w_t_readBank, w_t_readMill, w_t_readLevel, w_t_levels, w_t_boardsNow, w_t_ways, w_t_nexts, w_t_hourNow, w_t_staying, w_t_leftCard, w_t_leftLine, w_t_isMute, w_t_higher, w_t_over, w_t_dry, w_t_truths, w_t_failHours, w_t_failRow, w_t_keptBoards, w_t_keptHung, w_t_bodies, w_t_ran, w_t_kind, w_t_number, w_t_tellsV])), (a_t_s, .inl (cyI, 1454, .inl f_t_s))] := hD
    refine lv_if_ne (tgt := 30) hx hb dX11_figure_23 (by decide) (fun c9 => ?_) (fun c9 => ?_)
    · replace hw := hw.2 c9
      refine lv_iconst (v := 0) hx hb dX11_figure_30 (by decide) ?_
      exact B31 0 i_t_spot i_t_isWrong hw _ _ hP hD hS _ (lv_sub hl [0] rfl)
    · replace hw := hw.1 c9
      exact B26 i_t_spot i_t_isWrong hw _ _ hP hD hS _ (lv_sub hl [0] rfl)
set_option maxHeartbeats 8000000 in
set_option maxRecDepth 100000 in
theorem MX11_reachHere (l : Launch) (D : va_G) (cyI cyZ cyC : ClassId) (ro : va_W) (ce : Nat → CT) (cin : Nat → Prop) (ad : AD) (a_t a_t_s a_t_readBank a_t_readMill a_t_readLevel : Nat) (w_t_thrown w_t_image w_t_hasImage w_t_act w_t_open w_t_readSpan w_t_readSum w_t_readOdds w_t_levels w_t_boardsNow w_t_ways w_t_nexts w_t_hourNow w_t_staying w_t_leftCard w_t_leftLine w_t_isMute w_t_higher w_t_over w_t_dry w_t_truths w_t_failHours w_t_failRow w_t_keptBoards w_t_keptHung w_t_bodies w_t_ran w_t_kind w_t_number w_t_tellsV : Value) (sz : Nat) (i_t_spot : Int32) (i_t_end : Int32) (i_t_isWrong : Int32) (i_t_readMany : Int32) (f_t_s : Nat → Int32) (f_t_readBank : Nat → Int32) (f_t_readMill : Nat → Int32) (f_t_readLevel : Nat → Int32) (Q : Int32 → Int32 → Int32 → (Nat → Int32) → (Nat → Int32) → (Nat → Int32) → Prop)  (hw : WX11_reachHere i_t_spot i_t_end i_t_isWrong i_t_readMany f_t_s f_t_readBank f_t_readMill f_t_readLevel Q) : Met l yX11_reachHere wsX11_reachHere ({ frames := 6, cells := 0, slots := 0, locals := 128 }) (va_Pc [.ref a_t] (PRE D cyI cyZ cyC ro ce cin ad (SX11_reachHere cyI cyZ cyC a_t a_t_s a_t_readBank a_t_readMill a_t_readLevel w_t_thrown w_t_image w_t_hasImage w_t_act w_t_open w_t_readSpan w_t_readSum w_t_readOdds w_t_levels w_t_boardsNow w_t_ways w_t_nexts w_t_hourNow w_t_staying w_t_leftCard w_t_leftLine w_t_isMute w_t_higher w_t_over w_t_dry w_t_truths w_t_failHours w_t_failRow w_t_keptBoards w_t_keptHung w_t_bodies w_t_ran w_t_kind w_t_number w_t_tellsV  i_t_spot i_t_end i_t_isWrong i_t_readMany f_t_s f_t_readBank f_t_readMill f_t_readLevel) sz)) (va_Qv (fun (u : Int32 × Int32 × Int32 × (Nat → Int32) × (Nat → Int32) × (Nat → Int32)) => Q u.1 u.2.1 u.2.2.1 u.2.2.2.1 u.2.2.2.2.1 u.2.2.2.2.2) (fun (u : Int32 × Int32 × Int32 × (Nat → Int32) × (Nat → Int32) × (Nat → Int32)) (t : State) => POST D (va_A (SX11_reachHere cyI cyZ cyC a_t a_t_s a_t_readBank a_t_readMill a_t_readLevel w_t_thrown w_t_image w_t_hasImage w_t_act w_t_open w_t_readSpan w_t_readSum w_t_readOdds w_t_levels w_t_boardsNow w_t_ways w_t_nexts w_t_hourNow w_t_staying w_t_leftCard w_t_leftLine w_t_isMute w_t_higher w_t_over w_t_dry w_t_truths w_t_failHours w_t_failRow w_t_keptBoards w_t_keptHung w_t_bodies w_t_ran w_t_kind w_t_number w_t_tellsV  i_t_spot i_t_end i_t_isWrong i_t_readMany f_t_s f_t_readBank f_t_readMill f_t_readLevel) sz) (SX11_reachHere cyI cyZ cyC a_t a_t_s a_t_readBank a_t_readMill a_t_readLevel w_t_thrown w_t_image w_t_hasImage w_t_act w_t_open w_t_readSpan w_t_readSum w_t_readOdds w_t_levels w_t_boardsNow w_t_ways w_t_nexts w_t_hourNow w_t_staying w_t_leftCard w_t_leftLine w_t_isMute w_t_higher w_t_over w_t_dry w_t_truths w_t_failHours w_t_failRow w_t_keptBoards w_t_keptHung w_t_bodies w_t_ran w_t_kind w_t_number w_t_tellsV  u.1 i_t_end u.2.1 u.2.2.1 f_t_s u.2.2.2.1 u.2.2.2.2.1 u.2.2.2.2.2) t) (va_A (SX11_reachHere cyI cyZ cyC a_t a_t_s a_t_readBank a_t_readMill a_t_readLevel w_t_thrown w_t_image w_t_hasImage w_t_act w_t_open w_t_readSpan w_t_readSum w_t_readOdds w_t_levels w_t_boardsNow w_t_ways w_t_nexts w_t_hourNow w_t_staying w_t_leftCard w_t_leftLine w_t_isMute w_t_higher w_t_over w_t_dry w_t_truths w_t_failHours w_t_failRow w_t_keptBoards w_t_keptHung w_t_bodies w_t_ran w_t_kind w_t_number w_t_tellsV  i_t_spot i_t_end i_t_isWrong i_t_readMany f_t_s f_t_readBank f_t_readMill f_t_readLevel) sz)) 0 0 (va_A (SX11_reachHere cyI cyZ cyC a_t a_t_s a_t_readBank a_t_readMill a_t_readLevel w_t_thrown w_t_image w_t_hasImage w_t_act w_t_open w_t_readSpan w_t_readSum w_t_readOdds w_t_levels w_t_boardsNow w_t_ways w_t_nexts w_t_hourNow w_t_staying w_t_leftCard w_t_leftLine w_t_isMute w_t_higher w_t_over w_t_dry w_t_truths w_t_failHours w_t_failRow w_t_keptBoards w_t_keptHung w_t_bodies w_t_ran w_t_kind w_t_number w_t_tellsV  i_t_spot i_t_end i_t_isWrong i_t_readMany f_t_s f_t_readBank f_t_readMill f_t_readLevel) sz) := by
  refine Met.ofW (cc := cX11_reachHere) (maxL := 1) (ret := none) (by decide +kernel) rfl ?_
  intro p e s m args below meth c s₁ B hml hv
  obtain ⟨rfl, hsz, hP, hK, hD0, hX⟩ := hv
  have hx := B.exec
  have hb := B.bytes
  have hr := B.returns
  have hts := atoms_spec (ws := wsX11_reachHere) B.pre
  have hown : s.vm.findClass RX11 = some m.cls := findClass_of_methodNamed B.named
  have hlocks := B.notSynchronized
  clear B
  subst hsz
  have hD := hD0.self (sz := s.heap.size)
  clear hD0
  generalize hAe : va_A (SX11_reachHere cyI cyZ cyC a_t a_t_s a_t_readBank a_t_readMill a_t_readLevel w_t_thrown w_t_image w_t_hasImage w_t_act w_t_open w_t_readSpan w_t_readSum w_t_readOdds w_t_levels w_t_boardsNow w_t_ways w_t_nexts w_t_hourNow w_t_staying w_t_leftCard w_t_leftLine w_t_isMute w_t_higher w_t_over w_t_dry w_t_truths w_t_failHours w_t_failRow w_t_keptBoards w_t_keptHung w_t_bodies w_t_ran w_t_kind w_t_number w_t_tellsV  i_t_spot i_t_end i_t_isWrong i_t_readMany f_t_s f_t_readBank f_t_readMill f_t_readLevel) s.heap.size = A at hD hX ⊢
  have hA : ∀ q : Nat, s.heap.size ≤ q → A q := fun q h => by rw [← hAe]; exact Or.inr h
  clear hAe
  obtain ⟨H, hH⟩ : ∃ H, H = s.heap := ⟨_, rfl⟩
  rw [← hH] at hP ⊢
  have hS : va_S A s.heap H [] := by rw [hH]; exact va_S.rf
  clear hH
  replace hP : va_P D vwCl [(a_t, .inr (10, [w_t_thrown, .ref a_t_s, w_t_image, w_t_hasImage, w_t_act, .int i_t_spot, .int i_t_end, .int i_t_isWrong, w_t_open, .int i_t_readMany, w_t_readSpan, w_t_readSum, w_t_readOdds, .ref a_t_readBank, .ref a_t_readMill, .ref a_t_readLevel, w_t_levels, w_t_boardsNow, w_t_ways, w_t_nexts, w_t_hourNow, w_t_staying, w_t_leftCard, w_t_leftLine, w_t_isMute, w_t_higher, w_t_over, w_t_dry, w_t_truths, w_t_failHours, w_t_failRow, w_t_keptBoards, w_t_keptHung, w_t_bodies, w_t_ran, w_t_kind, w_t_number, w_t_tellsV])), (a_t_s, .inl (cyI, 1454, .inl f_t_s)), (a_t_readBank, .inl (cyI, 3, .inl f_t_readBank)), (a_t_readMill, .inl (cyI, 3, .inl f_t_readMill)), (a_t_readLevel, .inl (cyI, 3, .inl f_t_readLevel))] H := hP
  replace hD : va_D A [(a_t, .inr (10, [w_t_thrown, .ref a_t_s, w_t_image, w_t_hasImage, w_t_act, .int i_t_spot, .int i_t_end, .int i_t_isWrong, w_t_open, .int i_t_readMany, w_t_readSpan, w_t_readSum, w_t_readOdds, .ref a_t_readBank, .ref a_t_readMill, .ref a_t_readLevel, w_t_levels, w_t_boardsNow, w_t_ways, w_t_nexts, w_t_hourNow, w_t_staying, w_t_leftCard, w_t_leftLine, w_t_isMute, w_t_higher, w_t_over, w_t_dry, w_t_truths, w_t_failHours, w_t_failRow, w_t_keptBoards, w_t_keptHung, w_t_bodies, w_t_ran, w_t_kind, w_t_number, w_t_tellsV])), (a_t_s, .inl (cyI, 1454, .inl f_t_s)), (a_t_readBank, .inl (cyI, 3, .inl f_t_readBank)), (a_t_readMill, .inl (cyI, 3, .inl f_t_readMill)), (a_t_readLevel, .inl (cyI, 3, .inl f_t_readLevel))] := hD
  have hl := lv_entry ([.ref a_t]) (n := 1) (Nat.le_of_ble_eq_true rfl)
  rw [lg_entry_eq]
  generalize (lg_sl ([.ref a_t]) ++ List.replicate (1 - (lg_sl ([.ref a_t])).length) Slot.unset).toArray = ls at hl ⊢
  replace hl : lv_has ls 1 [(0, .ref a_t)] := hl
  unfold WX11_reachHere at hw
  refine lv_aload_n hx hb dX11_reachHere_0 rfl (lv_at hl 0 rfl) ?_
  refine va_get (D := D) (ci := 10) (v := .int i_t_readMany) (C := RX11) (T := TX11) (N := 38) hx hb hts inX11_reachHere_X11 hown hK hP 0 rfl rfl 9 (by decide) (hts _ (List.mem_of_getElem? (i := 1) rfl)) (fun _ h9 => h9) rfl dX11_reachHere_1 ?_
  refine lv_iconst (v := 3) hx hb dX11_reachHere_4 (by decide) ?_
  refine lv_icmp_ne (tgt := 14) hx hb dX11_reachHere_5 (by decide) (fun c1 => ?_) (fun c1 => ?_)
  · replace hw := hw.2 c1
    refine lv_aload_n hx hb dX11_reachHere_14 rfl (lv_at hl 0 rfl) ?_
    refine va_ldcS (tx := "reach ") (q := ad.1 0) hx hb hown (hX.env.2.1 ("SluiceCardsModel", 98, "reach ", 0) (List.mem_of_getElem? (i := 7) rfl)) dX11_reachHere_15 ?_
    obtain ⟨QK, eQ, hq⟩ := genq (P := WX11_spells 0 i_t_spot i_t_end i_t_isWrong f_t_s) hw
    clear hw
    have hPc := hP.sub (ws' := [(a_t, .inr (10, [w_t_thrown, .ref a_t_s, w_t_image, w_t_hasImage, w_t_act, .int i_t_spot, .int i_t_end, .int i_t_isWrong, w_t_open, .int i_t_readMany, w_t_readSpan, w_t_readSum, w_t_readOdds, .ref a_t_readBank, .ref a_t_readMill, .ref a_t_readLevel, w_t_levels, w_t_boardsNow, w_t_ways, w_t_nexts, w_t_hourNow, w_t_staying, w_t_leftCard, w_t_leftLine, w_t_isMute, w_t_higher, w_t_over, w_t_dry, w_t_truths, w_t_failHours, w_t_failRow, w_t_keptBoards, w_t_keptHung, w_t_bodies, w_t_ran, w_t_kind, w_t_number, w_t_tellsV])), (a_t_s, .inl (cyI, 1454, .inl f_t_s))]) [0, 1] rfl
    have hDc := hD.sub (ws' := [(a_t, .inr (10, [w_t_thrown, .ref a_t_s, w_t_image, w_t_hasImage, w_t_act, .int i_t_spot, .int i_t_end, .int i_t_isWrong, w_t_open, .int i_t_readMany, w_t_readSpan, w_t_readSum, w_t_readOdds, .ref a_t_readBank, .ref a_t_readMill, .ref a_t_readLevel, w_t_levels, w_t_boardsNow, w_t_ways, w_t_nexts, w_t_hourNow, w_t_staying, w_t_leftCard, w_t_leftLine, w_t_isMute, w_t_higher, w_t_over, w_t_dry, w_t_truths, w_t_failHours, w_t_failRow, w_t_keptBoards, w_t_keptHung, w_t_bodies, w_t_ran, w_t_kind, w_t_number, w_t_tellsV])), (a_t_s, .inl (cyI, 1454, .inl f_t_s))]) [0, 1] (by decide) rfl
    have hFc := va_free (wc := [(a_t, .inr (10, [w_t_thrown, .ref a_t_s, w_t_image, w_t_hasImage, w_t_act, .int i_t_spot, .int i_t_end, .int i_t_isWrong, w_t_open, .int i_t_readMany, w_t_readSpan, w_t_readSum, w_t_readOdds, .ref a_t_readBank, .ref a_t_readMill, .ref a_t_readLevel, w_t_levels, w_t_boardsNow, w_t_ways, w_t_nexts, w_t_hourNow, w_t_staying, w_t_leftCard, w_t_leftLine, w_t_isMute, w_t_higher, w_t_over, w_t_dry, w_t_truths, w_t_failHours, w_t_failRow, w_t_keptBoards, w_t_keptHung, w_t_bodies, w_t_ran, w_t_kind, w_t_number, w_t_tellsV])), (a_t_s, .inl (cyI, 1454, .inl f_t_s))]) hD hS hA [0, 1] rfl
    refine va_callv (va_runV (As := [.ref (ad.1 0)]) (rest := []) ⟨hx, hb, hml, hown, hts⟩ (MX11_spells l D cyI cyZ cyC ro ce cin ad a_t a_t_s  (w_t_thrown) (w_t_image) (w_t_hasImage) (w_t_act) (w_t_open) (.int i_t_readMany) (w_t_readSpan) (w_t_readSum) (w_t_readOdds) (.ref a_t_readBank) (.ref a_t_readMill) (.ref a_t_readLevel) (w_t_levels) (w_t_boardsNow) (w_t_ways) (w_t_nexts) (w_t_hourNow) (w_t_staying) (w_t_leftCard) (w_t_leftLine) (w_t_isMute) (w_t_higher) (w_t_over) (w_t_dry) (w_t_truths) (w_t_failHours) (w_t_failRow) (w_t_keptBoards) (w_t_keptHung) (w_t_bodies) (w_t_ran) (w_t_kind) (w_t_number) (w_t_tellsV) H.size 0 i_t_spot i_t_end i_t_isWrong f_t_s QK (by decide) hq) (cwV 1 hts gX11_reachHere_X11_spells rfl rfl rfl ⟨rfl, dmX11_spells⟩ ⟨Nat.le_of_ble_eq_true rfl, Nat.le_of_ble_eq_true rfl⟩) ⟨pre_bl, va_recv hK hPc (ci := 10) (q0 := 0) rfl rfl, fun U hU hW => ⟨rfl, pre_of hX hS hK hPc hDc hFc hU hW⟩⟩ rfl rfl hl.1 rfl (lv_room (Nat.le_of_ble_eq_true rfl)) dX11_reachHere_17 ⟨Nat.zero_le _, Nat.zero_le _⟩) hS (fun q _ h => hFc q h) hFc (fun u t H1 locs ht hvm hw hB hz1 hk1 hS => ?_)
    obtain ⟨i_t_spot_2, i_t_isWrong_3⟩ := u
    replace hw : QK i_t_spot_2 i_t_isWrong_3 := hw
    clear hq
    subst eQ
    obtain ⟨hP1, hD1⟩ := hB
    rw [ht] at hP1
    obtain ⟨hP, hD⟩ := va_join (wr := [(a_t_readBank, .inl (cyI, 3, .inl f_t_readBank)), (a_t_readMill, .inl (cyI, 3, .inl f_t_readMill)), (a_t_readLevel, .inl (cyI, 3, .inl f_t_readLevel))]) (w1 := [(a_t, .inr (10, [w_t_thrown, .ref a_t_s, w_t_image, w_t_hasImage, w_t_act, .int i_t_spot_2, .int i_t_end, .int i_t_isWrong_3, w_t_open, .int i_t_readMany, w_t_readSpan, w_t_readSum, w_t_readOdds, .ref a_t_readBank, .ref a_t_readMill, .ref a_t_readLevel, w_t_levels, w_t_boardsNow, w_t_ways, w_t_nexts, w_t_hourNow, w_t_staying, w_t_leftCard, w_t_leftLine, w_t_isMute, w_t_higher, w_t_over, w_t_dry, w_t_truths, w_t_failHours, w_t_failRow, w_t_keptBoards, w_t_keptHung, w_t_bodies, w_t_ran, w_t_kind, w_t_number, w_t_tellsV])), (a_t_s, .inl (cyI, 1454, .inl f_t_s))]) hP hD [0, 1] [2, 3, 4] rfl rfl (by decide) (by decide) hk1 hFc hP1 hD1
    clear hPc hDc hFc hk1 hz1 hP1 hD1 ht hvm
    generalize H1 = H at hP hS ⊢
    replace hP : va_P D vwCl [(a_t_readBank, .inl (cyI, 3, .inl f_t_readBank)), (a_t_readMill, .inl (cyI, 3, .inl f_t_readMill)), (a_t_readLevel, .inl (cyI, 3, .inl f_t_readLevel)), (a_t, .inr (10, [w_t_thrown, .ref a_t_s, w_t_image, w_t_hasImage, w_t_act, .int i_t_spot_2, .int i_t_end, .int i_t_isWrong_3, w_t_open, .int i_t_readMany, w_t_readSpan, w_t_readSum, w_t_readOdds, .ref a_t_readBank, .ref a_t_readMill, .ref a_t_readLevel, w_t_levels, w_t_boardsNow, w_t_ways, w_t_nexts, w_t_hourNow, w_t_staying, w_t_leftCard, w_t_leftLine, w_t_isMute, w_t_higher, w_t_over, w_t_dry, w_t_truths, w_t_failHours, w_t_failRow, w_t_keptBoards, w_t_keptHung, w_t_bodies, w_t_ran, w_t_kind, w_t_number, w_t_tellsV])), (a_t_s, .inl (cyI, 1454, .inl f_t_s))] H := hP
    replace hD : va_D A [(a_t_readBank, .inl (cyI, 3, .inl f_t_readBank)), (a_t_readMill, .inl (cyI, 3, .inl f_t_readMill)), (a_t_readLevel, .inl (cyI, 3, .inl f_t_readLevel)), (a_t, .inr (10, [w_t_thrown, .ref a_t_s, w_t_image, w_t_hasImage, w_t_act, .int i_t_spot_2, .int i_t_end, .int i_t_isWrong_3, w_t_open, .int i_t_readMany, w_t_readSpan, w_t_readSum, w_t_readOdds, .ref a_t_readBank, .ref a_t_readMill, .ref a_t_readLevel, w_t_levels, w_t_boardsNow, w_t_ways, w_t_nexts, w_t_hourNow, w_t_staying, w_t_leftCard, w_t_leftLine, w_t_isMute, w_t_higher, w_t_over, w_t_dry, w_t_truths, w_t_failHours, w_t_failRow, w_t_keptBoards, w_t_keptHung, w_t_bodies, w_t_ran, w_t_kind, w_t_number, w_t_tellsV])), (a_t_s, .inl (cyI, 1454, .inl f_t_s))] := hD
    refine lv_aload_n hx hb dX11_reachHere_20 rfl (lv_at hl 0 rfl) ?_
    refine va_get (D := D) (ci := 10) (v := .ref a_t_readBank) (C := RX11) (T := TX11) (N := 38) hx hb hts inX11_reachHere_X11 hown hK hP 3 rfl rfl 13 (by decide) (hts _ (List.mem_of_getElem? (i := 3) rfl)) (fun _ h9 => h9) rfl dX11_reachHere_21 ?_
    refine lv_aload_n hx hb dX11_reachHere_24 rfl (lv_at hl 0 rfl) ?_
    refine va_get (D := D) (ci := 10) (v := .int i_t_readMany) (C := RX11) (T := TX11) (N := 38) hx hb hts inX11_reachHere_X11 hown hK hP 3 rfl rfl 9 (by decide) (hts _ (List.mem_of_getElem? (i := 1) rfl)) (fun _ h9 => h9) rfl dX11_reachHere_25 ?_
    refine lv_aload_n hx hb dX11_reachHere_28 rfl (lv_at hl 0 rfl) ?_
    refine lv_iconst (v := 1) hx hb dX11_reachHere_29 (by decide) ?_
    refine lv_bipush (v := 9) hx hb dX11_reachHere_30 (by decide) ?_
    obtain ⟨QK, eQ, hq⟩ := genq (P := WX11_figure 1 9 i_t_spot_2 i_t_end i_t_isWrong_3 f_t_s) hw
    clear hw
    have hPc := hP.sub (ws' := [(a_t, .inr (10, [w_t_thrown, .ref a_t_s, w_t_image, w_t_hasImage, w_t_act, .int i_t_spot_2, .int i_t_end, .int i_t_isWrong_3, w_t_open, .int i_t_readMany, w_t_readSpan, w_t_readSum, w_t_readOdds, .ref a_t_readBank, .ref a_t_readMill, .ref a_t_readLevel, w_t_levels, w_t_boardsNow, w_t_ways, w_t_nexts, w_t_hourNow, w_t_staying, w_t_leftCard, w_t_leftLine, w_t_isMute, w_t_higher, w_t_over, w_t_dry, w_t_truths, w_t_failHours, w_t_failRow, w_t_keptBoards, w_t_keptHung, w_t_bodies, w_t_ran, w_t_kind, w_t_number, w_t_tellsV])), (a_t_s, .inl (cyI, 1454, .inl f_t_s))]) [3, 4] rfl
    have hDc := hD.sub (ws' := [(a_t, .inr (10, [w_t_thrown, .ref a_t_s, w_t_image, w_t_hasImage, w_t_act, .int i_t_spot_2, .int i_t_end, .int i_t_isWrong_3, w_t_open, .int i_t_readMany, w_t_readSpan, w_t_readSum, w_t_readOdds, .ref a_t_readBank, .ref a_t_readMill, .ref a_t_readLevel, w_t_levels, w_t_boardsNow, w_t_ways, w_t_nexts, w_t_hourNow, w_t_staying, w_t_leftCard, w_t_leftLine, w_t_isMute, w_t_higher, w_t_over, w_t_dry, w_t_truths, w_t_failHours, w_t_failRow, w_t_keptBoards, w_t_keptHung, w_t_bodies, w_t_ran, w_t_kind, w_t_number, w_t_tellsV])), (a_t_s, .inl (cyI, 1454, .inl f_t_s))]) [3, 4] (by decide) rfl
    have hFc := va_free (wc := [(a_t, .inr (10, [w_t_thrown, .ref a_t_s, w_t_image, w_t_hasImage, w_t_act, .int i_t_spot_2, .int i_t_end, .int i_t_isWrong_3, w_t_open, .int i_t_readMany, w_t_readSpan, w_t_readSum, w_t_readOdds, .ref a_t_readBank, .ref a_t_readMill, .ref a_t_readLevel, w_t_levels, w_t_boardsNow, w_t_ways, w_t_nexts, w_t_hourNow, w_t_staying, w_t_leftCard, w_t_leftLine, w_t_isMute, w_t_higher, w_t_over, w_t_dry, w_t_truths, w_t_failHours, w_t_failRow, w_t_keptBoards, w_t_keptHung, w_t_bodies, w_t_ran, w_t_kind, w_t_number, w_t_tellsV])), (a_t_s, .inl (cyI, 1454, .inl f_t_s))]) hD hS hA [3, 4] rfl
    refine va_calli (va_runV (As := [.int 1, .int 9]) (rest := [.int i_t_readMany, .ref a_t_readBank]) ⟨hx, hb, hml, hown, hts⟩ (MX11_figure l D cyI cyZ cyC ro ce cin ad a_t a_t_s  (w_t_thrown) (w_t_image) (w_t_hasImage) (w_t_act) (w_t_open) (.int i_t_readMany) (w_t_readSpan) (w_t_readSum) (w_t_readOdds) (.ref a_t_readBank) (.ref a_t_readMill) (.ref a_t_readLevel) (w_t_levels) (w_t_boardsNow) (w_t_ways) (w_t_nexts) (w_t_hourNow) (w_t_staying) (w_t_leftCard) (w_t_leftLine) (w_t_isMute) (w_t_higher) (w_t_over) (w_t_dry) (w_t_truths) (w_t_failHours) (w_t_failRow) (w_t_keptBoards) (w_t_keptHung) (w_t_bodies) (w_t_ran) (w_t_kind) (w_t_number) (w_t_tellsV) H.size 1 9 i_t_spot_2 i_t_end i_t_isWrong_3 f_t_s QK  hq) (cwV 2 hts gX11_reachHere_X11_figure rfl rfl rfl ⟨rfl, dmX11_figure⟩ ⟨Nat.le_of_ble_eq_true rfl, Nat.le_of_ble_eq_true rfl⟩) ⟨pre_bl, va_recv hK hPc (ci := 10) (q0 := 0) rfl rfl, fun U hU hW => ⟨rfl, pre_of hX hS hK hPc hDc hFc hU hW⟩⟩ rfl rfl hl.1 rfl (lv_room (Nat.le_of_ble_eq_true rfl)) dX11_reachHere_32 ⟨Nat.zero_le _, Nat.zero_le _⟩) hS (fun q _ h => hFc q h) hFc (fun r4 u t H1 locs ht hvm hw hB hz1 hk1 hS => ?_)
    obtain ⟨i_t_spot_5, i_t_isWrong_6⟩ := u
    replace hw : QK r4 i_t_spot_5 i_t_isWrong_6 := hw
    clear hq
    subst eQ
    obtain ⟨hP1, hD1⟩ := hB
    rw [ht] at hP1
    obtain ⟨hP, hD⟩ := va_join (wr := [(a_t_readBank, .inl (cyI, 3, .inl f_t_readBank)), (a_t_readMill, .inl (cyI, 3, .inl f_t_readMill)), (a_t_readLevel, .inl (cyI, 3, .inl f_t_readLevel))]) (w1 := [(a_t, .inr (10, [w_t_thrown, .ref a_t_s, w_t_image, w_t_hasImage, w_t_act, .int i_t_spot_5, .int i_t_end, .int i_t_isWrong_6, w_t_open, .int i_t_readMany, w_t_readSpan, w_t_readSum, w_t_readOdds, .ref a_t_readBank, .ref a_t_readMill, .ref a_t_readLevel, w_t_levels, w_t_boardsNow, w_t_ways, w_t_nexts, w_t_hourNow, w_t_staying, w_t_leftCard, w_t_leftLine, w_t_isMute, w_t_higher, w_t_over, w_t_dry, w_t_truths, w_t_failHours, w_t_failRow, w_t_keptBoards, w_t_keptHung, w_t_bodies, w_t_ran, w_t_kind, w_t_number, w_t_tellsV])), (a_t_s, .inl (cyI, 1454, .inl f_t_s))]) hP hD [3, 4] [0, 1, 2] rfl rfl (by decide) (by decide) hk1 hFc hP1 hD1
    clear hPc hDc hFc hk1 hz1 hP1 hD1 ht hvm
    generalize H1 = H at hP hS ⊢
    replace hP : va_P D vwCl [(a_t_readBank, .inl (cyI, 3, .inl f_t_readBank)), (a_t_readMill, .inl (cyI, 3, .inl f_t_readMill)), (a_t_readLevel, .inl (cyI, 3, .inl f_t_readLevel)), (a_t, .inr (10, [w_t_thrown, .ref a_t_s, w_t_image, w_t_hasImage, w_t_act, .int i_t_spot_5, .int i_t_end, .int i_t_isWrong_6, w_t_open, .int i_t_readMany, w_t_readSpan, w_t_readSum, w_t_readOdds, .ref a_t_readBank, .ref a_t_readMill, .ref a_t_readLevel, w_t_levels, w_t_boardsNow, w_t_ways, w_t_nexts, w_t_hourNow, w_t_staying, w_t_leftCard, w_t_leftLine, w_t_isMute, w_t_higher, w_t_over, w_t_dry, w_t_truths, w_t_failHours, w_t_failRow, w_t_keptBoards, w_t_keptHung, w_t_bodies, w_t_ran, w_t_kind, w_t_number, w_t_tellsV])), (a_t_s, .inl (cyI, 1454, .inl f_t_s))] H := hP
    replace hD : va_D A [(a_t_readBank, .inl (cyI, 3, .inl f_t_readBank)), (a_t_readMill, .inl (cyI, 3, .inl f_t_readMill)), (a_t_readLevel, .inl (cyI, 3, .inl f_t_readLevel)), (a_t, .inr (10, [w_t_thrown, .ref a_t_s, w_t_image, w_t_hasImage, w_t_act, .int i_t_spot_5, .int i_t_end, .int i_t_isWrong_6, w_t_open, .int i_t_readMany, w_t_readSpan, w_t_readSum, w_t_readOdds, .ref a_t_readBank, .ref a_t_readMill, .ref a_t_readLevel, w_t_levels, w_t_boardsNow, w_t_ways, w_t_nexts, w_t_hourNow, w_t_staying, w_t_leftCard, w_t_leftLine, w_t_isMute, w_t_higher, w_t_over, w_t_dry, w_t_truths, w_t_failHours, w_t_failRow, w_t_keptBoards, w_t_keptHung, w_t_bodies, w_t_ran, w_t_kind, w_t_number, w_t_tellsV])), (a_t_s, .inl (cyI, 1454, .inl f_t_s))] := hD
    have h7 := hw.1
    replace hw := hw.2
    refine va_iast hx hb hK hP hD hS 0 0 rfl rfl h7 dX11_reachHere_35 (fun H locs hP hD hS => ?_)
    replace hP : va_P D vwCl [(a_t_readBank, .inl (cyI, 3, .inl (upd f_t_readBank i_t_readMany.toNatClampNeg r4))), (a_t_readMill, .inl (cyI, 3, .inl f_t_readMill)), (a_t_readLevel, .inl (cyI, 3, .inl f_t_readLevel)), (a_t, .inr (10, [w_t_thrown, .ref a_t_s, w_t_image, w_t_hasImage, w_t_act, .int i_t_spot_5, .int i_t_end, .int i_t_isWrong_6, w_t_open, .int i_t_readMany, w_t_readSpan, w_t_readSum, w_t_readOdds, .ref a_t_readBank, .ref a_t_readMill, .ref a_t_readLevel, w_t_levels, w_t_boardsNow, w_t_ways, w_t_nexts, w_t_hourNow, w_t_staying, w_t_leftCard, w_t_leftLine, w_t_isMute, w_t_higher, w_t_over, w_t_dry, w_t_truths, w_t_failHours, w_t_failRow, w_t_keptBoards, w_t_keptHung, w_t_bodies, w_t_ran, w_t_kind, w_t_number, w_t_tellsV])), (a_t_s, .inl (cyI, 1454, .inl f_t_s))] H := hP
    replace hD : va_D A [(a_t_readBank, .inl (cyI, 3, .inl (upd f_t_readBank i_t_readMany.toNatClampNeg r4))), (a_t_readMill, .inl (cyI, 3, .inl f_t_readMill)), (a_t_readLevel, .inl (cyI, 3, .inl f_t_readLevel)), (a_t, .inr (10, [w_t_thrown, .ref a_t_s, w_t_image, w_t_hasImage, w_t_act, .int i_t_spot_5, .int i_t_end, .int i_t_isWrong_6, w_t_open, .int i_t_readMany, w_t_readSpan, w_t_readSum, w_t_readOdds, .ref a_t_readBank, .ref a_t_readMill, .ref a_t_readLevel, w_t_levels, w_t_boardsNow, w_t_ways, w_t_nexts, w_t_hourNow, w_t_staying, w_t_leftCard, w_t_leftLine, w_t_isMute, w_t_higher, w_t_over, w_t_dry, w_t_truths, w_t_failHours, w_t_failRow, w_t_keptBoards, w_t_keptHung, w_t_bodies, w_t_ran, w_t_kind, w_t_number, w_t_tellsV])), (a_t_s, .inl (cyI, 1454, .inl f_t_s))] := hD
    refine lv_aload_n hx hb dX11_reachHere_36 rfl (lv_at hl 0 rfl) ?_
    refine lv_bipush (v := 32) hx hb dX11_reachHere_37 (by decide) ?_
    obtain ⟨QK, eQ, hq⟩ := genq (P := WX11_must 32 i_t_spot_5 i_t_end i_t_isWrong_6 f_t_s) hw
    clear hw
    have hPc := hP.sub (ws' := [(a_t, .inr (10, [w_t_thrown, .ref a_t_s, w_t_image, w_t_hasImage, w_t_act, .int i_t_spot_5, .int i_t_end, .int i_t_isWrong_6, w_t_open, .int i_t_readMany, w_t_readSpan, w_t_readSum, w_t_readOdds, .ref a_t_readBank, .ref a_t_readMill, .ref a_t_readLevel, w_t_levels, w_t_boardsNow, w_t_ways, w_t_nexts, w_t_hourNow, w_t_staying, w_t_leftCard, w_t_leftLine, w_t_isMute, w_t_higher, w_t_over, w_t_dry, w_t_truths, w_t_failHours, w_t_failRow, w_t_keptBoards, w_t_keptHung, w_t_bodies, w_t_ran, w_t_kind, w_t_number, w_t_tellsV])), (a_t_s, .inl (cyI, 1454, .inl f_t_s))]) [3, 4] rfl
    have hDc := hD.sub (ws' := [(a_t, .inr (10, [w_t_thrown, .ref a_t_s, w_t_image, w_t_hasImage, w_t_act, .int i_t_spot_5, .int i_t_end, .int i_t_isWrong_6, w_t_open, .int i_t_readMany, w_t_readSpan, w_t_readSum, w_t_readOdds, .ref a_t_readBank, .ref a_t_readMill, .ref a_t_readLevel, w_t_levels, w_t_boardsNow, w_t_ways, w_t_nexts, w_t_hourNow, w_t_staying, w_t_leftCard, w_t_leftLine, w_t_isMute, w_t_higher, w_t_over, w_t_dry, w_t_truths, w_t_failHours, w_t_failRow, w_t_keptBoards, w_t_keptHung, w_t_bodies, w_t_ran, w_t_kind, w_t_number, w_t_tellsV])), (a_t_s, .inl (cyI, 1454, .inl f_t_s))]) [3, 4] (by decide) rfl
    have hFc := va_free (wc := [(a_t, .inr (10, [w_t_thrown, .ref a_t_s, w_t_image, w_t_hasImage, w_t_act, .int i_t_spot_5, .int i_t_end, .int i_t_isWrong_6, w_t_open, .int i_t_readMany, w_t_readSpan, w_t_readSum, w_t_readOdds, .ref a_t_readBank, .ref a_t_readMill, .ref a_t_readLevel, w_t_levels, w_t_boardsNow, w_t_ways, w_t_nexts, w_t_hourNow, w_t_staying, w_t_leftCard, w_t_leftLine, w_t_isMute, w_t_higher, w_t_over, w_t_dry, w_t_truths, w_t_failHours, w_t_failRow, w_t_keptBoards, w_t_keptHung, w_t_bodies, w_t_ran, w_t_kind, w_t_number, w_t_tellsV])), (a_t_s, .inl (cyI, 1454, .inl f_t_s))]) hD hS hA [3, 4] rfl
    refine va_callv (va_runV (As := [.int 32]) (rest := []) ⟨hx, hb, hml, hown, hts⟩ (MX11_must l D cyI cyZ cyC ro ce cin ad a_t a_t_s  (w_t_thrown) (w_t_image) (w_t_hasImage) (w_t_act) (w_t_open) (.int i_t_readMany) (w_t_readSpan) (w_t_readSum) (w_t_readOdds) (.ref a_t_readBank) (.ref a_t_readMill) (.ref a_t_readLevel) (w_t_levels) (w_t_boardsNow) (w_t_ways) (w_t_nexts) (w_t_hourNow) (w_t_staying) (w_t_leftCard) (w_t_leftLine) (w_t_isMute) (w_t_higher) (w_t_over) (w_t_dry) (w_t_truths) (w_t_failHours) (w_t_failRow) (w_t_keptBoards) (w_t_keptHung) (w_t_bodies) (w_t_ran) (w_t_kind) (w_t_number) (w_t_tellsV) H.size 32 i_t_spot_5 i_t_end i_t_isWrong_6 f_t_s QK  hq) (cwV 1 hts gX11_reachHere_X11_must rfl rfl rfl ⟨rfl, dmX11_must⟩ ⟨Nat.le_of_ble_eq_true rfl, Nat.le_of_ble_eq_true rfl⟩) ⟨pre_bl, va_recv hK hPc (ci := 10) (q0 := 0) rfl rfl, fun U hU hW => ⟨rfl, pre_of hX hS hK hPc hDc hFc hU hW⟩⟩ rfl rfl hl.1 rfl (lv_room (Nat.le_of_ble_eq_true rfl)) dX11_reachHere_39 ⟨Nat.zero_le _, Nat.zero_le _⟩) hS (fun q _ h => hFc q h) hFc (fun u t H1 locs ht hvm hw hB hz1 hk1 hS => ?_)
    obtain ⟨i_t_spot_8, i_t_isWrong_9⟩ := u
    replace hw : QK i_t_spot_8 i_t_isWrong_9 := hw
    clear hq
    subst eQ
    obtain ⟨hP1, hD1⟩ := hB
    rw [ht] at hP1
    obtain ⟨hP, hD⟩ := va_join (wr := [(a_t_readBank, .inl (cyI, 3, .inl (upd f_t_readBank i_t_readMany.toNatClampNeg r4))), (a_t_readMill, .inl (cyI, 3, .inl f_t_readMill)), (a_t_readLevel, .inl (cyI, 3, .inl f_t_readLevel))]) (w1 := [(a_t, .inr (10, [w_t_thrown, .ref a_t_s, w_t_image, w_t_hasImage, w_t_act, .int i_t_spot_8, .int i_t_end, .int i_t_isWrong_9, w_t_open, .int i_t_readMany, w_t_readSpan, w_t_readSum, w_t_readOdds, .ref a_t_readBank, .ref a_t_readMill, .ref a_t_readLevel, w_t_levels, w_t_boardsNow, w_t_ways, w_t_nexts, w_t_hourNow, w_t_staying, w_t_leftCard, w_t_leftLine, w_t_isMute, w_t_higher, w_t_over, w_t_dry, w_t_truths, w_t_failHours, w_t_failRow, w_t_keptBoards, w_t_keptHung, w_t_bodies, w_t_ran, w_t_kind, w_t_number, w_t_tellsV])), (a_t_s, .inl (cyI, 1454, .inl f_t_s))]) hP hD [3, 4] [0, 1, 2] rfl rfl (by decide) (by decide) hk1 hFc hP1 hD1
    clear hPc hDc hFc hk1 hz1 hP1 hD1 ht hvm
    generalize H1 = H at hP hS ⊢
    replace hP : va_P D vwCl [(a_t_readBank, .inl (cyI, 3, .inl (upd f_t_readBank i_t_readMany.toNatClampNeg r4))), (a_t_readMill, .inl (cyI, 3, .inl f_t_readMill)), (a_t_readLevel, .inl (cyI, 3, .inl f_t_readLevel)), (a_t, .inr (10, [w_t_thrown, .ref a_t_s, w_t_image, w_t_hasImage, w_t_act, .int i_t_spot_8, .int i_t_end, .int i_t_isWrong_9, w_t_open, .int i_t_readMany, w_t_readSpan, w_t_readSum, w_t_readOdds, .ref a_t_readBank, .ref a_t_readMill, .ref a_t_readLevel, w_t_levels, w_t_boardsNow, w_t_ways, w_t_nexts, w_t_hourNow, w_t_staying, w_t_leftCard, w_t_leftLine, w_t_isMute, w_t_higher, w_t_over, w_t_dry, w_t_truths, w_t_failHours, w_t_failRow, w_t_keptBoards, w_t_keptHung, w_t_bodies, w_t_ran, w_t_kind, w_t_number, w_t_tellsV])), (a_t_s, .inl (cyI, 1454, .inl f_t_s))] H := hP
    replace hD : va_D A [(a_t_readBank, .inl (cyI, 3, .inl (upd f_t_readBank i_t_readMany.toNatClampNeg r4))), (a_t_readMill, .inl (cyI, 3, .inl f_t_readMill)), (a_t_readLevel, .inl (cyI, 3, .inl f_t_readLevel)), (a_t, .inr (10, [w_t_thrown, .ref a_t_s, w_t_image, w_t_hasImage, w_t_act, .int i_t_spot_8, .int i_t_end, .int i_t_isWrong_9, w_t_open, .int i_t_readMany, w_t_readSpan, w_t_readSum, w_t_readOdds, .ref a_t_readBank, .ref a_t_readMill, .ref a_t_readLevel, w_t_levels, w_t_boardsNow, w_t_ways, w_t_nexts, w_t_hourNow, w_t_staying, w_t_leftCard, w_t_leftLine, w_t_isMute, w_t_higher, w_t_over, w_t_dry, w_t_truths, w_t_failHours, w_t_failRow, w_t_keptBoards, w_t_keptHung, w_t_bodies, w_t_ran, w_t_kind, w_t_number, w_t_tellsV])), (a_t_s, .inl (cyI, 1454, .inl f_t_s))] := hD
    refine lv_aload_n hx hb dX11_reachHere_42 rfl (lv_at hl 0 rfl) ?_
    refine va_get (D := D) (ci := 10) (v := .ref a_t_readMill) (C := RX11) (T := TX11) (N := 38) hx hb hts inX11_reachHere_X11 hown hK hP 3 rfl rfl 14 (by decide) (hts _ (List.mem_of_getElem? (i := 4) rfl)) (fun _ h9 => h9) rfl dX11_reachHere_43 ?_
    refine lv_aload_n hx hb dX11_reachHere_46 rfl (lv_at hl 0 rfl) ?_
    refine va_get (D := D) (ci := 10) (v := .int i_t_readMany) (C := RX11) (T := TX11) (N := 38) hx hb hts inX11_reachHere_X11 hown hK hP 3 rfl rfl 9 (by decide) (hts _ (List.mem_of_getElem? (i := 1) rfl)) (fun _ h9 => h9) rfl dX11_reachHere_47 ?_
    refine lv_aload_n hx hb dX11_reachHere_50 rfl (lv_at hl 0 rfl) ?_
    refine lv_iconst (v := 0) hx hb dX11_reachHere_51 (by decide) ?_
    refine lv_bipush (v := 9) hx hb dX11_reachHere_52 (by decide) ?_
    obtain ⟨QK, eQ, hq⟩ := genq (P := WX11_figure 0 9 i_t_spot_8 i_t_end i_t_isWrong_9 f_t_s) hw
    clear hw
    have hPc := hP.sub (ws' := [(a_t, .inr (10, [w_t_thrown, .ref a_t_s, w_t_image, w_t_hasImage, w_t_act, .int i_t_spot_8, .int i_t_end, .int i_t_isWrong_9, w_t_open, .int i_t_readMany, w_t_readSpan, w_t_readSum, w_t_readOdds, .ref a_t_readBank, .ref a_t_readMill, .ref a_t_readLevel, w_t_levels, w_t_boardsNow, w_t_ways, w_t_nexts, w_t_hourNow, w_t_staying, w_t_leftCard, w_t_leftLine, w_t_isMute, w_t_higher, w_t_over, w_t_dry, w_t_truths, w_t_failHours, w_t_failRow, w_t_keptBoards, w_t_keptHung, w_t_bodies, w_t_ran, w_t_kind, w_t_number, w_t_tellsV])), (a_t_s, .inl (cyI, 1454, .inl f_t_s))]) [3, 4] rfl
    have hDc := hD.sub (ws' := [(a_t, .inr (10, [w_t_thrown, .ref a_t_s, w_t_image, w_t_hasImage, w_t_act, .int i_t_spot_8, .int i_t_end, .int i_t_isWrong_9, w_t_open, .int i_t_readMany, w_t_readSpan, w_t_readSum, w_t_readOdds, .ref a_t_readBank, .ref a_t_readMill, .ref a_t_readLevel, w_t_levels, w_t_boardsNow, w_t_ways, w_t_nexts, w_t_hourNow, w_t_staying, w_t_leftCard, w_t_leftLine, w_t_isMute, w_t_higher, w_t_over, w_t_dry, w_t_truths, w_t_failHours, w_t_failRow, w_t_keptBoards, w_t_keptHung, w_t_bodies, w_t_ran, w_t_kind, w_t_number, w_t_tellsV])), (a_t_s, .inl (cyI, 1454, .inl f_t_s))]) [3, 4] (by decide) rfl
    have hFc := va_free (wc := [(a_t, .inr (10, [w_t_thrown, .ref a_t_s, w_t_image, w_t_hasImage, w_t_act, .int i_t_spot_8, .int i_t_end, .int i_t_isWrong_9, w_t_open, .int i_t_readMany, w_t_readSpan, w_t_readSum, w_t_readOdds, .ref a_t_readBank, .ref a_t_readMill, .ref a_t_readLevel, w_t_levels, w_t_boardsNow, w_t_ways, w_t_nexts, w_t_hourNow, w_t_staying, w_t_leftCard, w_t_leftLine, w_t_isMute, w_t_higher, w_t_over, w_t_dry, w_t_truths, w_t_failHours, w_t_failRow, w_t_keptBoards, w_t_keptHung, w_t_bodies, w_t_ran, w_t_kind, w_t_number, w_t_tellsV])), (a_t_s, .inl (cyI, 1454, .inl f_t_s))]) hD hS hA [3, 4] rfl
    refine va_calli (va_runV (As := [.int 0, .int 9]) (rest := [.int i_t_readMany, .ref a_t_readMill]) ⟨hx, hb, hml, hown, hts⟩ (MX11_figure l D cyI cyZ cyC ro ce cin ad a_t a_t_s  (w_t_thrown) (w_t_image) (w_t_hasImage) (w_t_act) (w_t_open) (.int i_t_readMany) (w_t_readSpan) (w_t_readSum) (w_t_readOdds) (.ref a_t_readBank) (.ref a_t_readMill) (.ref a_t_readLevel) (w_t_levels) (w_t_boardsNow) (w_t_ways) (w_t_nexts) (w_t_hourNow) (w_t_staying) (w_t_leftCard) (w_t_leftLine) (w_t_isMute) (w_t_higher) (w_t_over) (w_t_dry) (w_t_truths) (w_t_failHours) (w_t_failRow) (w_t_keptBoards) (w_t_keptHung) (w_t_bodies) (w_t_ran) (w_t_kind) (w_t_number) (w_t_tellsV) H.size 0 9 i_t_spot_8 i_t_end i_t_isWrong_9 f_t_s QK  hq) (cwV 2 hts gX11_reachHere_X11_figure rfl rfl rfl ⟨rfl, dmX11_figure⟩ ⟨Nat.le_of_ble_eq_true rfl, Nat.le_of_ble_eq_true rfl⟩) ⟨pre_bl, va_recv hK hPc (ci := 10) (q0 := 0) rfl rfl, fun U hU hW => ⟨rfl, pre_of hX hS hK hPc hDc hFc hU hW⟩⟩ rfl rfl hl.1 rfl (lv_room (Nat.le_of_ble_eq_true rfl)) dX11_reachHere_54 ⟨Nat.zero_le _, Nat.zero_le _⟩) hS (fun q _ h => hFc q h) hFc (fun r10 u t H1 locs ht hvm hw hB hz1 hk1 hS => ?_)
    obtain ⟨i_t_spot_11, i_t_isWrong_12⟩ := u
    replace hw : QK r10 i_t_spot_11 i_t_isWrong_12 := hw
    clear hq
    subst eQ
    obtain ⟨hP1, hD1⟩ := hB
    rw [ht] at hP1
    obtain ⟨hP, hD⟩ := va_join (wr := [(a_t_readBank, .inl (cyI, 3, .inl (upd f_t_readBank i_t_readMany.toNatClampNeg r4))), (a_t_readMill, .inl (cyI, 3, .inl f_t_readMill)), (a_t_readLevel, .inl (cyI, 3, .inl f_t_readLevel))]) (w1 := [(a_t, .inr (10, [w_t_thrown, .ref a_t_s, w_t_image, w_t_hasImage, w_t_act, .int i_t_spot_11, .int i_t_end, .int i_t_isWrong_12, w_t_open, .int i_t_readMany, w_t_readSpan, w_t_readSum, w_t_readOdds, .ref a_t_readBank, .ref a_t_readMill, .ref a_t_readLevel, w_t_levels, w_t_boardsNow, w_t_ways, w_t_nexts, w_t_hourNow, w_t_staying, w_t_leftCard, w_t_leftLine, w_t_isMute, w_t_higher, w_t_over, w_t_dry, w_t_truths, w_t_failHours, w_t_failRow, w_t_keptBoards, w_t_keptHung, w_t_bodies, w_t_ran, w_t_kind, w_t_number, w_t_tellsV])), (a_t_s, .inl (cyI, 1454, .inl f_t_s))]) hP hD [3, 4] [0, 1, 2] rfl rfl (by decide) (by decide) hk1 hFc hP1 hD1
    clear hPc hDc hFc hk1 hz1 hP1 hD1 ht hvm
    generalize H1 = H at hP hS ⊢
    replace hP : va_P D vwCl [(a_t_readBank, .inl (cyI, 3, .inl (upd f_t_readBank i_t_readMany.toNatClampNeg r4))), (a_t_readMill, .inl (cyI, 3, .inl f_t_readMill)), (a_t_readLevel, .inl (cyI, 3, .inl f_t_readLevel)), (a_t, .inr (10, [w_t_thrown, .ref a_t_s, w_t_image, w_t_hasImage, w_t_act, .int i_t_spot_11, .int i_t_end, .int i_t_isWrong_12, w_t_open, .int i_t_readMany, w_t_readSpan, w_t_readSum, w_t_readOdds, .ref a_t_readBank, .ref a_t_readMill, .ref a_t_readLevel, w_t_levels, w_t_boardsNow, w_t_ways, w_t_nexts, w_t_hourNow, w_t_staying, w_t_leftCard, w_t_leftLine, w_t_isMute, w_t_higher, w_t_over, w_t_dry, w_t_truths, w_t_failHours, w_t_failRow, w_t_keptBoards, w_t_keptHung, w_t_bodies, w_t_ran, w_t_kind, w_t_number, w_t_tellsV])), (a_t_s, .inl (cyI, 1454, .inl f_t_s))] H := hP
    replace hD : va_D A [(a_t_readBank, .inl (cyI, 3, .inl (upd f_t_readBank i_t_readMany.toNatClampNeg r4))), (a_t_readMill, .inl (cyI, 3, .inl f_t_readMill)), (a_t_readLevel, .inl (cyI, 3, .inl f_t_readLevel)), (a_t, .inr (10, [w_t_thrown, .ref a_t_s, w_t_image, w_t_hasImage, w_t_act, .int i_t_spot_11, .int i_t_end, .int i_t_isWrong_12, w_t_open, .int i_t_readMany, w_t_readSpan, w_t_readSum, w_t_readOdds, .ref a_t_readBank, .ref a_t_readMill, .ref a_t_readLevel, w_t_levels, w_t_boardsNow, w_t_ways, w_t_nexts, w_t_hourNow, w_t_staying, w_t_leftCard, w_t_leftLine, w_t_isMute, w_t_higher, w_t_over, w_t_dry, w_t_truths, w_t_failHours, w_t_failRow, w_t_keptBoards, w_t_keptHung, w_t_bodies, w_t_ran, w_t_kind, w_t_number, w_t_tellsV])), (a_t_s, .inl (cyI, 1454, .inl f_t_s))] := hD
    have h13 := hw.1
    replace hw := hw.2
    refine va_iast hx hb hK hP hD hS 1 0 rfl rfl h13 dX11_reachHere_57 (fun H locs hP hD hS => ?_)
    replace hP : va_P D vwCl [(a_t_readBank, .inl (cyI, 3, .inl (upd f_t_readBank i_t_readMany.toNatClampNeg r4))), (a_t_readMill, .inl (cyI, 3, .inl (upd f_t_readMill i_t_readMany.toNatClampNeg r10))), (a_t_readLevel, .inl (cyI, 3, .inl f_t_readLevel)), (a_t, .inr (10, [w_t_thrown, .ref a_t_s, w_t_image, w_t_hasImage, w_t_act, .int i_t_spot_11, .int i_t_end, .int i_t_isWrong_12, w_t_open, .int i_t_readMany, w_t_readSpan, w_t_readSum, w_t_readOdds, .ref a_t_readBank, .ref a_t_readMill, .ref a_t_readLevel, w_t_levels, w_t_boardsNow, w_t_ways, w_t_nexts, w_t_hourNow, w_t_staying, w_t_leftCard, w_t_leftLine, w_t_isMute, w_t_higher, w_t_over, w_t_dry, w_t_truths, w_t_failHours, w_t_failRow, w_t_keptBoards, w_t_keptHung, w_t_bodies, w_t_ran, w_t_kind, w_t_number, w_t_tellsV])), (a_t_s, .inl (cyI, 1454, .inl f_t_s))] H := hP
    replace hD : va_D A [(a_t_readBank, .inl (cyI, 3, .inl (upd f_t_readBank i_t_readMany.toNatClampNeg r4))), (a_t_readMill, .inl (cyI, 3, .inl (upd f_t_readMill i_t_readMany.toNatClampNeg r10))), (a_t_readLevel, .inl (cyI, 3, .inl f_t_readLevel)), (a_t, .inr (10, [w_t_thrown, .ref a_t_s, w_t_image, w_t_hasImage, w_t_act, .int i_t_spot_11, .int i_t_end, .int i_t_isWrong_12, w_t_open, .int i_t_readMany, w_t_readSpan, w_t_readSum, w_t_readOdds, .ref a_t_readBank, .ref a_t_readMill, .ref a_t_readLevel, w_t_levels, w_t_boardsNow, w_t_ways, w_t_nexts, w_t_hourNow, w_t_staying, w_t_leftCard, w_t_leftLine, w_t_isMute, w_t_higher, w_t_over, w_t_dry, w_t_truths, w_t_failHours, w_t_failRow, w_t_keptBoards, w_t_keptHung, w_t_bodies, w_t_ran, w_t_kind, w_t_number, w_t_tellsV])), (a_t_s, .inl (cyI, 1454, .inl f_t_s))] := hD
    refine lv_aload_n hx hb dX11_reachHere_58 rfl (lv_at hl 0 rfl) ?_
    refine lv_bipush (v := 32) hx hb dX11_reachHere_59 (by decide) ?_
    obtain ⟨QK, eQ, hq⟩ := genq (P := WX11_must 32 i_t_spot_11 i_t_end i_t_isWrong_12 f_t_s) hw
    clear hw
    have hPc := hP.sub (ws' := [(a_t, .inr (10, [w_t_thrown, .ref a_t_s, w_t_image, w_t_hasImage, w_t_act, .int i_t_spot_11, .int i_t_end, .int i_t_isWrong_12, w_t_open, .int i_t_readMany, w_t_readSpan, w_t_readSum, w_t_readOdds, .ref a_t_readBank, .ref a_t_readMill, .ref a_t_readLevel, w_t_levels, w_t_boardsNow, w_t_ways, w_t_nexts, w_t_hourNow, w_t_staying, w_t_leftCard, w_t_leftLine, w_t_isMute, w_t_higher, w_t_over, w_t_dry, w_t_truths, w_t_failHours, w_t_failRow, w_t_keptBoards, w_t_keptHung, w_t_bodies, w_t_ran, w_t_kind, w_t_number, w_t_tellsV])), (a_t_s, .inl (cyI, 1454, .inl f_t_s))]) [3, 4] rfl
    have hDc := hD.sub (ws' := [(a_t, .inr (10, [w_t_thrown, .ref a_t_s, w_t_image, w_t_hasImage, w_t_act, .int i_t_spot_11, .int i_t_end, .int i_t_isWrong_12, w_t_open, .int i_t_readMany, w_t_readSpan, w_t_readSum, w_t_readOdds, .ref a_t_readBank, .ref a_t_readMill, .ref a_t_readLevel, w_t_levels, w_t_boardsNow, w_t_ways, w_t_nexts, w_t_hourNow, w_t_staying, w_t_leftCard, w_t_leftLine, w_t_isMute, w_t_higher, w_t_over, w_t_dry, w_t_truths, w_t_failHours, w_t_failRow, w_t_keptBoards, w_t_keptHung, w_t_bodies, w_t_ran, w_t_kind, w_t_number, w_t_tellsV])), (a_t_s, .inl (cyI, 1454, .inl f_t_s))]) [3, 4] (by decide) rfl
    have hFc := va_free (wc := [(a_t, .inr (10, [w_t_thrown, .ref a_t_s, w_t_image, w_t_hasImage, w_t_act, .int i_t_spot_11, .int i_t_end, .int i_t_isWrong_12, w_t_open, .int i_t_readMany, w_t_readSpan, w_t_readSum, w_t_readOdds, .ref a_t_readBank, .ref a_t_readMill, .ref a_t_readLevel, w_t_levels, w_t_boardsNow, w_t_ways, w_t_nexts, w_t_hourNow, w_t_staying, w_t_leftCard, w_t_leftLine, w_t_isMute, w_t_higher, w_t_over, w_t_dry, w_t_truths, w_t_failHours, w_t_failRow, w_t_keptBoards, w_t_keptHung, w_t_bodies, w_t_ran, w_t_kind, w_t_number, w_t_tellsV])), (a_t_s, .inl (cyI, 1454, .inl f_t_s))]) hD hS hA [3, 4] rfl
    refine va_callv (va_runV (As := [.int 32]) (rest := []) ⟨hx, hb, hml, hown, hts⟩ (MX11_must l D cyI cyZ cyC ro ce cin ad a_t a_t_s  (w_t_thrown) (w_t_image) (w_t_hasImage) (w_t_act) (w_t_open) (.int i_t_readMany) (w_t_readSpan) (w_t_readSum) (w_t_readOdds) (.ref a_t_readBank) (.ref a_t_readMill) (.ref a_t_readLevel) (w_t_levels) (w_t_boardsNow) (w_t_ways) (w_t_nexts) (w_t_hourNow) (w_t_staying) (w_t_leftCard) (w_t_leftLine) (w_t_isMute) (w_t_higher) (w_t_over) (w_t_dry) (w_t_truths) (w_t_failHours) (w_t_failRow) (w_t_keptBoards) (w_t_keptHung) (w_t_bodies) (w_t_ran) (w_t_kind) (w_t_number) (w_t_tellsV) H.size 32 i_t_spot_11 i_t_end i_t_isWrong_12 f_t_s QK  hq) (cwV 1 hts gX11_reachHere_X11_must rfl rfl rfl ⟨rfl, dmX11_must⟩ ⟨Nat.le_of_ble_eq_true rfl, Nat.le_of_ble_eq_true rfl⟩) ⟨pre_bl, va_recv hK hPc (ci := 10) (q0 := 0) rfl rfl, fun U hU hW => ⟨rfl, pre_of hX hS hK hPc hDc hFc hU hW⟩⟩ rfl rfl hl.1 rfl (lv_room (Nat.le_of_ble_eq_true rfl)) dX11_reachHere_61 ⟨Nat.zero_le _, Nat.zero_le _⟩) hS (fun q _ h => hFc q h) hFc (fun u t H1 locs ht hvm hw hB hz1 hk1 hS => ?_)
    obtain ⟨i_t_spot_14, i_t_isWrong_15⟩ := u
    replace hw : QK i_t_spot_14 i_t_isWrong_15 := hw
    clear hq
    subst eQ
    obtain ⟨hP1, hD1⟩ := hB
    rw [ht] at hP1
    obtain ⟨hP, hD⟩ := va_join (wr := [(a_t_readBank, .inl (cyI, 3, .inl (upd f_t_readBank i_t_readMany.toNatClampNeg r4))), (a_t_readMill, .inl (cyI, 3, .inl (upd f_t_readMill i_t_readMany.toNatClampNeg r10))), (a_t_readLevel, .inl (cyI, 3, .inl f_t_readLevel))]) (w1 := [(a_t, .inr (10, [w_t_thrown, .ref a_t_s, w_t_image, w_t_hasImage, w_t_act, .int i_t_spot_14, .int i_t_end, .int i_t_isWrong_15, w_t_open, .int i_t_readMany, w_t_readSpan, w_t_readSum, w_t_readOdds, .ref a_t_readBank, .ref a_t_readMill, .ref a_t_readLevel, w_t_levels, w_t_boardsNow, w_t_ways, w_t_nexts, w_t_hourNow, w_t_staying, w_t_leftCard, w_t_leftLine, w_t_isMute, w_t_higher, w_t_over, w_t_dry, w_t_truths, w_t_failHours, w_t_failRow, w_t_keptBoards, w_t_keptHung, w_t_bodies, w_t_ran, w_t_kind, w_t_number, w_t_tellsV])), (a_t_s, .inl (cyI, 1454, .inl f_t_s))]) hP hD [3, 4] [0, 1, 2] rfl rfl (by decide) (by decide) hk1 hFc hP1 hD1
    clear hPc hDc hFc hk1 hz1 hP1 hD1 ht hvm
    generalize H1 = H at hP hS ⊢
    replace hP : va_P D vwCl [(a_t_readBank, .inl (cyI, 3, .inl (upd f_t_readBank i_t_readMany.toNatClampNeg r4))), (a_t_readMill, .inl (cyI, 3, .inl (upd f_t_readMill i_t_readMany.toNatClampNeg r10))), (a_t_readLevel, .inl (cyI, 3, .inl f_t_readLevel)), (a_t, .inr (10, [w_t_thrown, .ref a_t_s, w_t_image, w_t_hasImage, w_t_act, .int i_t_spot_14, .int i_t_end, .int i_t_isWrong_15, w_t_open, .int i_t_readMany, w_t_readSpan, w_t_readSum, w_t_readOdds, .ref a_t_readBank, .ref a_t_readMill, .ref a_t_readLevel, w_t_levels, w_t_boardsNow, w_t_ways, w_t_nexts, w_t_hourNow, w_t_staying, w_t_leftCard, w_t_leftLine, w_t_isMute, w_t_higher, w_t_over, w_t_dry, w_t_truths, w_t_failHours, w_t_failRow, w_t_keptBoards, w_t_keptHung, w_t_bodies, w_t_ran, w_t_kind, w_t_number, w_t_tellsV])), (a_t_s, .inl (cyI, 1454, .inl f_t_s))] H := hP
    replace hD : va_D A [(a_t_readBank, .inl (cyI, 3, .inl (upd f_t_readBank i_t_readMany.toNatClampNeg r4))), (a_t_readMill, .inl (cyI, 3, .inl (upd f_t_readMill i_t_readMany.toNatClampNeg r10))), (a_t_readLevel, .inl (cyI, 3, .inl f_t_readLevel)), (a_t, .inr (10, [w_t_thrown, .ref a_t_s, w_t_image, w_t_hasImage, w_t_act, .int i_t_spot_14, .int i_t_end, .int i_t_isWrong_15, w_t_open, .int i_t_readMany, w_t_readSpan, w_t_readSum, w_t_readOdds, .ref a_t_readBank, .ref a_t_readMill, .ref a_t_readLevel, w_t_levels, w_t_boardsNow, w_t_ways, w_t_nexts, w_t_hourNow, w_t_staying, w_t_leftCard, w_t_leftLine, w_t_isMute, w_t_higher, w_t_over, w_t_dry, w_t_truths, w_t_failHours, w_t_failRow, w_t_keptBoards, w_t_keptHung, w_t_bodies, w_t_ran, w_t_kind, w_t_number, w_t_tellsV])), (a_t_s, .inl (cyI, 1454, .inl f_t_s))] := hD
    refine lv_aload_n hx hb dX11_reachHere_64 rfl (lv_at hl 0 rfl) ?_
    refine va_get (D := D) (ci := 10) (v := .ref a_t_readLevel) (C := RX11) (T := TX11) (N := 38) hx hb hts inX11_reachHere_X11 hown hK hP 3 rfl rfl 15 (by decide) (hts _ (List.mem_of_getElem? (i := 5) rfl)) (fun _ h9 => h9) rfl dX11_reachHere_65 ?_
    refine lv_aload_n hx hb dX11_reachHere_68 rfl (lv_at hl 0 rfl) ?_
    refine va_get (D := D) (ci := 10) (v := .int i_t_readMany) (C := RX11) (T := TX11) (N := 38) hx hb hts inX11_reachHere_X11 hown hK hP 3 rfl rfl 9 (by decide) (hts _ (List.mem_of_getElem? (i := 1) rfl)) (fun _ h9 => h9) rfl dX11_reachHere_69 ?_
    refine lv_aload_n hx hb dX11_reachHere_72 rfl (lv_at hl 0 rfl) ?_
    refine lv_iconst (v := 0) hx hb dX11_reachHere_73 (by decide) ?_
    refine lv_bipush (v := 9) hx hb dX11_reachHere_74 (by decide) ?_
    obtain ⟨QK, eQ, hq⟩ := genq (P := WX11_figure 0 9 i_t_spot_14 i_t_end i_t_isWrong_15 f_t_s) hw
    clear hw
    have hPc := hP.sub (ws' := [(a_t, .inr (10, [w_t_thrown, .ref a_t_s, w_t_image, w_t_hasImage, w_t_act, .int i_t_spot_14, .int i_t_end, .int i_t_isWrong_15, w_t_open, .int i_t_readMany, w_t_readSpan, w_t_readSum, w_t_readOdds, .ref a_t_readBank, .ref a_t_readMill, .ref a_t_readLevel, w_t_levels, w_t_boardsNow, w_t_ways, w_t_nexts, w_t_hourNow, w_t_staying, w_t_leftCard, w_t_leftLine, w_t_isMute, w_t_higher, w_t_over, w_t_dry, w_t_truths, w_t_failHours, w_t_failRow, w_t_keptBoards, w_t_keptHung, w_t_bodies, w_t_ran, w_t_kind, w_t_number, w_t_tellsV])), (a_t_s, .inl (cyI, 1454, .inl f_t_s))]) [3, 4] rfl
    have hDc := hD.sub (ws' := [(a_t, .inr (10, [w_t_thrown, .ref a_t_s, w_t_image, w_t_hasImage, w_t_act, .int i_t_spot_14, .int i_t_end, .int i_t_isWrong_15, w_t_open, .int i_t_readMany, w_t_readSpan, w_t_readSum, w_t_readOdds, .ref a_t_readBank, .ref a_t_readMill, .ref a_t_readLevel, w_t_levels, w_t_boardsNow, w_t_ways, w_t_nexts, w_t_hourNow, w_t_staying, w_t_leftCard, w_t_leftLine, w_t_isMute, w_t_higher, w_t_over, w_t_dry, w_t_truths, w_t_failHours, w_t_failRow, w_t_keptBoards, w_t_keptHung, w_t_bodies, w_t_ran, w_t_kind, w_t_number, w_t_tellsV])), (a_t_s, .inl (cyI, 1454, .inl f_t_s))]) [3, 4] (by decide) rfl
    have hFc := va_free (wc := [(a_t, .inr (10, [w_t_thrown, .ref a_t_s, w_t_image, w_t_hasImage, w_t_act, .int i_t_spot_14, .int i_t_end, .int i_t_isWrong_15, w_t_open, .int i_t_readMany, w_t_readSpan, w_t_readSum, w_t_readOdds, .ref a_t_readBank, .ref a_t_readMill, .ref a_t_readLevel, w_t_levels, w_t_boardsNow, w_t_ways, w_t_nexts, w_t_hourNow, w_t_staying, w_t_leftCard, w_t_leftLine, w_t_isMute, w_t_higher, w_t_over, w_t_dry, w_t_truths, w_t_failHours, w_t_failRow, w_t_keptBoards, w_t_keptHung, w_t_bodies, w_t_ran, w_t_kind, w_t_number, w_t_tellsV])), (a_t_s, .inl (cyI, 1454, .inl f_t_s))]) hD hS hA [3, 4] rfl
    refine va_calli (va_runV (As := [.int 0, .int 9]) (rest := [.int i_t_readMany, .ref a_t_readLevel]) ⟨hx, hb, hml, hown, hts⟩ (MX11_figure l D cyI cyZ cyC ro ce cin ad a_t a_t_s  (w_t_thrown) (w_t_image) (w_t_hasImage) (w_t_act) (w_t_open) (.int i_t_readMany) (w_t_readSpan) (w_t_readSum) (w_t_readOdds) (.ref a_t_readBank) (.ref a_t_readMill) (.ref a_t_readLevel) (w_t_levels) (w_t_boardsNow) (w_t_ways) (w_t_nexts) (w_t_hourNow) (w_t_staying) (w_t_leftCard) (w_t_leftLine) (w_t_isMute) (w_t_higher) (w_t_over) (w_t_dry) (w_t_truths) (w_t_failHours) (w_t_failRow) (w_t_keptBoards) (w_t_keptHung) (w_t_bodies) (w_t_ran) (w_t_kind) (w_t_number) (w_t_tellsV) H.size 0 9 i_t_spot_14 i_t_end i_t_isWrong_15 f_t_s QK  hq) (cwV 2 hts gX11_reachHere_X11_figure rfl rfl rfl ⟨rfl, dmX11_figure⟩ ⟨Nat.le_of_ble_eq_true rfl, Nat.le_of_ble_eq_true rfl⟩) ⟨pre_bl, va_recv hK hPc (ci := 10) (q0 := 0) rfl rfl, fun U hU hW => ⟨rfl, pre_of hX hS hK hPc hDc hFc hU hW⟩⟩ rfl rfl hl.1 rfl (lv_room (Nat.le_of_ble_eq_true rfl)) dX11_reachHere_76 ⟨Nat.zero_le _, Nat.zero_le _⟩) hS (fun q _ h => hFc q h) hFc (fun r16 u t H1 locs ht hvm hw hB hz1 hk1 hS => ?_)
    obtain ⟨i_t_spot_17, i_t_isWrong_18⟩ := u
    replace hw : QK r16 i_t_spot_17 i_t_isWrong_18 := hw
    clear hq
    subst eQ
    obtain ⟨hP1, hD1⟩ := hB
    rw [ht] at hP1
    obtain ⟨hP, hD⟩ := va_join (wr := [(a_t_readBank, .inl (cyI, 3, .inl (upd f_t_readBank i_t_readMany.toNatClampNeg r4))), (a_t_readMill, .inl (cyI, 3, .inl (upd f_t_readMill i_t_readMany.toNatClampNeg r10))), (a_t_readLevel, .inl (cyI, 3, .inl f_t_readLevel))]) (w1 := [(a_t, .inr (10, [w_t_thrown, .ref a_t_s, w_t_image, w_t_hasImage, w_t_act, .int i_t_spot_17, .int i_t_end, .int i_t_isWrong_18, w_t_open, .int i_t_readMany, w_t_readSpan, w_t_readSum, w_t_readOdds, .ref a_t_readBank, .ref a_t_readMill, .ref a_t_readLevel, w_t_levels, w_t_boardsNow, w_t_ways, w_t_nexts, w_t_hourNow, w_t_staying, w_t_leftCard, w_t_leftLine, w_t_isMute, w_t_higher, w_t_over, w_t_dry, w_t_truths, w_t_failHours, w_t_failRow, w_t_keptBoards, w_t_keptHung, w_t_bodies, w_t_ran, w_t_kind, w_t_number, w_t_tellsV])), (a_t_s, .inl (cyI, 1454, .inl f_t_s))]) hP hD [3, 4] [0, 1, 2] rfl rfl (by decide) (by decide) hk1 hFc hP1 hD1
    clear hPc hDc hFc hk1 hz1 hP1 hD1 ht hvm
    generalize H1 = H at hP hS ⊢
    replace hP : va_P D vwCl [(a_t_readBank, .inl (cyI, 3, .inl (upd f_t_readBank i_t_readMany.toNatClampNeg r4))), (a_t_readMill, .inl (cyI, 3, .inl (upd f_t_readMill i_t_readMany.toNatClampNeg r10))), (a_t_readLevel, .inl (cyI, 3, .inl f_t_readLevel)), (a_t, .inr (10, [w_t_thrown, .ref a_t_s, w_t_image, w_t_hasImage, w_t_act, .int i_t_spot_17, .int i_t_end, .int i_t_isWrong_18, w_t_open, .int i_t_readMany, w_t_readSpan, w_t_readSum, w_t_readOdds, .ref a_t_readBank, .ref a_t_readMill, .ref a_t_readLevel, w_t_levels, w_t_boardsNow, w_t_ways, w_t_nexts, w_t_hourNow, w_t_staying, w_t_leftCard, w_t_leftLine, w_t_isMute, w_t_higher, w_t_over, w_t_dry, w_t_truths, w_t_failHours, w_t_failRow, w_t_keptBoards, w_t_keptHung, w_t_bodies, w_t_ran, w_t_kind, w_t_number, w_t_tellsV])), (a_t_s, .inl (cyI, 1454, .inl f_t_s))] H := hP
    replace hD : va_D A [(a_t_readBank, .inl (cyI, 3, .inl (upd f_t_readBank i_t_readMany.toNatClampNeg r4))), (a_t_readMill, .inl (cyI, 3, .inl (upd f_t_readMill i_t_readMany.toNatClampNeg r10))), (a_t_readLevel, .inl (cyI, 3, .inl f_t_readLevel)), (a_t, .inr (10, [w_t_thrown, .ref a_t_s, w_t_image, w_t_hasImage, w_t_act, .int i_t_spot_17, .int i_t_end, .int i_t_isWrong_18, w_t_open, .int i_t_readMany, w_t_readSpan, w_t_readSum, w_t_readOdds, .ref a_t_readBank, .ref a_t_readMill, .ref a_t_readLevel, w_t_levels, w_t_boardsNow, w_t_ways, w_t_nexts, w_t_hourNow, w_t_staying, w_t_leftCard, w_t_leftLine, w_t_isMute, w_t_higher, w_t_over, w_t_dry, w_t_truths, w_t_failHours, w_t_failRow, w_t_keptBoards, w_t_keptHung, w_t_bodies, w_t_ran, w_t_kind, w_t_number, w_t_tellsV])), (a_t_s, .inl (cyI, 1454, .inl f_t_s))] := hD
    have h19 := hw.1
    replace hw := hw.2
    refine va_iast hx hb hK hP hD hS 2 0 rfl rfl h19 dX11_reachHere_79 (fun H locs hP hD hS => ?_)
    replace hP : va_P D vwCl [(a_t_readBank, .inl (cyI, 3, .inl (upd f_t_readBank i_t_readMany.toNatClampNeg r4))), (a_t_readMill, .inl (cyI, 3, .inl (upd f_t_readMill i_t_readMany.toNatClampNeg r10))), (a_t_readLevel, .inl (cyI, 3, .inl (upd f_t_readLevel i_t_readMany.toNatClampNeg r16))), (a_t, .inr (10, [w_t_thrown, .ref a_t_s, w_t_image, w_t_hasImage, w_t_act, .int i_t_spot_17, .int i_t_end, .int i_t_isWrong_18, w_t_open, .int i_t_readMany, w_t_readSpan, w_t_readSum, w_t_readOdds, .ref a_t_readBank, .ref a_t_readMill, .ref a_t_readLevel, w_t_levels, w_t_boardsNow, w_t_ways, w_t_nexts, w_t_hourNow, w_t_staying, w_t_leftCard, w_t_leftLine, w_t_isMute, w_t_higher, w_t_over, w_t_dry, w_t_truths, w_t_failHours, w_t_failRow, w_t_keptBoards, w_t_keptHung, w_t_bodies, w_t_ran, w_t_kind, w_t_number, w_t_tellsV])), (a_t_s, .inl (cyI, 1454, .inl f_t_s))] H := hP
    replace hD : va_D A [(a_t_readBank, .inl (cyI, 3, .inl (upd f_t_readBank i_t_readMany.toNatClampNeg r4))), (a_t_readMill, .inl (cyI, 3, .inl (upd f_t_readMill i_t_readMany.toNatClampNeg r10))), (a_t_readLevel, .inl (cyI, 3, .inl (upd f_t_readLevel i_t_readMany.toNatClampNeg r16))), (a_t, .inr (10, [w_t_thrown, .ref a_t_s, w_t_image, w_t_hasImage, w_t_act, .int i_t_spot_17, .int i_t_end, .int i_t_isWrong_18, w_t_open, .int i_t_readMany, w_t_readSpan, w_t_readSum, w_t_readOdds, .ref a_t_readBank, .ref a_t_readMill, .ref a_t_readLevel, w_t_levels, w_t_boardsNow, w_t_ways, w_t_nexts, w_t_hourNow, w_t_staying, w_t_leftCard, w_t_leftLine, w_t_isMute, w_t_higher, w_t_over, w_t_dry, w_t_truths, w_t_failHours, w_t_failRow, w_t_keptBoards, w_t_keptHung, w_t_bodies, w_t_ran, w_t_kind, w_t_number, w_t_tellsV])), (a_t_s, .inl (cyI, 1454, .inl f_t_s))] := hD
    refine lv_aload_n hx hb dX11_reachHere_80 rfl (lv_at hl 0 rfl) ?_
    refine lv_dup hx hb dX11_reachHere_81 rfl ?_
    refine va_get (D := D) (ci := 10) (v := .int i_t_readMany) (C := RX11) (T := TX11) (N := 38) hx hb hts inX11_reachHere_X11 hown hK hP 3 rfl rfl 9 (by decide) (hts _ (List.mem_of_getElem? (i := 1) rfl)) (fun _ h9 => h9) rfl dX11_reachHere_82 ?_
    refine lv_iconst (v := 1) hx hb dX11_reachHere_85 (by decide) ?_
    refine lv_iadd hx hb dX11_reachHere_86 ?_
    refine lv_topi (fun y20 ey20 => ?_)
    replace hw := hw y20 ey20
    refine va_put (D := D) (ci := 10) (v := .int y20) (ty := .int) (C := RX11) (T := TX11) (N := 38) hx hb hts inX11_reachHere_X11 tyX11 tyX11_ok nmX11 hown hK hP hD hS 3 rfl rfl 9 (by decide) (hts _ (List.mem_of_getElem? (i := 1) rfl)) (fun _ h9 => h9) rfl (tyX11_ok 9 (by decide)) rfl rfl (Nat.le_of_ble_eq_true rfl) dX11_reachHere_87 (fun H locs hP hD hS => ?_)
    replace hP : va_P D vwCl [(a_t_readBank, .inl (cyI, 3, .inl (upd f_t_readBank i_t_readMany.toNatClampNeg r4))), (a_t_readMill, .inl (cyI, 3, .inl (upd f_t_readMill i_t_readMany.toNatClampNeg r10))), (a_t_readLevel, .inl (cyI, 3, .inl (upd f_t_readLevel i_t_readMany.toNatClampNeg r16))), (a_t, .inr (10, [w_t_thrown, .ref a_t_s, w_t_image, w_t_hasImage, w_t_act, .int i_t_spot_17, .int i_t_end, .int i_t_isWrong_18, w_t_open, .int y20, w_t_readSpan, w_t_readSum, w_t_readOdds, .ref a_t_readBank, .ref a_t_readMill, .ref a_t_readLevel, w_t_levels, w_t_boardsNow, w_t_ways, w_t_nexts, w_t_hourNow, w_t_staying, w_t_leftCard, w_t_leftLine, w_t_isMute, w_t_higher, w_t_over, w_t_dry, w_t_truths, w_t_failHours, w_t_failRow, w_t_keptBoards, w_t_keptHung, w_t_bodies, w_t_ran, w_t_kind, w_t_number, w_t_tellsV])), (a_t_s, .inl (cyI, 1454, .inl f_t_s))] H := hP
    replace hD : va_D A [(a_t_readBank, .inl (cyI, 3, .inl (upd f_t_readBank i_t_readMany.toNatClampNeg r4))), (a_t_readMill, .inl (cyI, 3, .inl (upd f_t_readMill i_t_readMany.toNatClampNeg r10))), (a_t_readLevel, .inl (cyI, 3, .inl (upd f_t_readLevel i_t_readMany.toNatClampNeg r16))), (a_t, .inr (10, [w_t_thrown, .ref a_t_s, w_t_image, w_t_hasImage, w_t_act, .int i_t_spot_17, .int i_t_end, .int i_t_isWrong_18, w_t_open, .int y20, w_t_readSpan, w_t_readSum, w_t_readOdds, .ref a_t_readBank, .ref a_t_readMill, .ref a_t_readLevel, w_t_levels, w_t_boardsNow, w_t_ways, w_t_nexts, w_t_hourNow, w_t_staying, w_t_leftCard, w_t_leftLine, w_t_isMute, w_t_higher, w_t_over, w_t_dry, w_t_truths, w_t_failHours, w_t_failRow, w_t_keptBoards, w_t_keptHung, w_t_bodies, w_t_ran, w_t_kind, w_t_number, w_t_tellsV])), (a_t_s, .inl (cyI, 1454, .inl f_t_s))] := hD
    have hPj := hP.sub (ws' := [(a_t, .inr (10, [w_t_thrown, .ref a_t_s, w_t_image, w_t_hasImage, w_t_act, .int i_t_spot_17, .int i_t_end, .int i_t_isWrong_18, w_t_open, .int y20, w_t_readSpan, w_t_readSum, w_t_readOdds, .ref a_t_readBank, .ref a_t_readMill, .ref a_t_readLevel, w_t_levels, w_t_boardsNow, w_t_ways, w_t_nexts, w_t_hourNow, w_t_staying, w_t_leftCard, w_t_leftLine, w_t_isMute, w_t_higher, w_t_over, w_t_dry, w_t_truths, w_t_failHours, w_t_failRow, w_t_keptBoards, w_t_keptHung, w_t_bodies, w_t_ran, w_t_kind, w_t_number, w_t_tellsV])), (a_t_s, .inl (cyI, 1454, .inl f_t_s)), (a_t_readBank, .inl (cyI, 3, .inl (upd f_t_readBank i_t_readMany.toNatClampNeg r4))), (a_t_readMill, .inl (cyI, 3, .inl (upd f_t_readMill i_t_readMany.toNatClampNeg r10))), (a_t_readLevel, .inl (cyI, 3, .inl (upd f_t_readLevel i_t_readMany.toNatClampNeg r16)))]) [3, 4, 0, 1, 2] rfl
    have hDj := hD.sub (ws' := [(a_t, .inr (10, [w_t_thrown, .ref a_t_s, w_t_image, w_t_hasImage, w_t_act, .int i_t_spot_17, .int i_t_end, .int i_t_isWrong_18, w_t_open, .int y20, w_t_readSpan, w_t_readSum, w_t_readOdds, .ref a_t_readBank, .ref a_t_readMill, .ref a_t_readLevel, w_t_levels, w_t_boardsNow, w_t_ways, w_t_nexts, w_t_hourNow, w_t_staying, w_t_leftCard, w_t_leftLine, w_t_isMute, w_t_higher, w_t_over, w_t_dry, w_t_truths, w_t_failHours, w_t_failRow, w_t_keptBoards, w_t_keptHung, w_t_bodies, w_t_ran, w_t_kind, w_t_number, w_t_tellsV])), (a_t_s, .inl (cyI, 1454, .inl f_t_s)), (a_t_readBank, .inl (cyI, 3, .inl (upd f_t_readBank i_t_readMany.toNatClampNeg r4))), (a_t_readMill, .inl (cyI, 3, .inl (upd f_t_readMill i_t_readMany.toNatClampNeg r10))), (a_t_readLevel, .inl (cyI, 3, .inl (upd f_t_readLevel i_t_readMany.toNatClampNeg r16)))]) [3, 4, 0, 1, 2] (by decide) rfl
    exact W.vret hx hb hr (fun t ht hW => ⟨⟨(i_t_spot_17, i_t_isWrong_18, y20, upd f_t_readBank i_t_readMany.toNatClampNeg r4, upd f_t_readMill i_t_readMany.toNatClampNeg r10, upd f_t_readLevel i_t_readMany.toNatClampNeg r16), rfl, hw, post_mk ht hPj hDj⟩, hS.F ht⟩) hS.2.2 dX11_reachHere_90 hlocks
  · replace hw := hw.1 c1
    refine lv_aload_n hx hb dX11_reachHere_8 rfl (lv_at hl 0 rfl) ?_
    refine lv_iconst (v := 1) hx hb dX11_reachHere_9 (by decide) ?_
    refine va_put (D := D) (ci := 10) (v := .int 1) (ty := .boolean) (C := RX11) (T := TX11) (N := 38) hx hb hts inX11_reachHere_X11 tyX11 tyX11_ok nmX11 hown hK hP hD hS 0 rfl rfl 7 (by decide) (hts _ (List.mem_of_getElem? (i := 2) rfl)) (fun _ h9 => h9) rfl (tyX11_ok 7 (by decide)) rfl rfl (Nat.le_of_ble_eq_true rfl) dX11_reachHere_10 (fun H locs hP hD hS => ?_)
    replace hP : va_P D vwCl [(a_t, .inr (10, [w_t_thrown, .ref a_t_s, w_t_image, w_t_hasImage, w_t_act, .int i_t_spot, .int i_t_end, .int 1, w_t_open, .int i_t_readMany, w_t_readSpan, w_t_readSum, w_t_readOdds, .ref a_t_readBank, .ref a_t_readMill, .ref a_t_readLevel, w_t_levels, w_t_boardsNow, w_t_ways, w_t_nexts, w_t_hourNow, w_t_staying, w_t_leftCard, w_t_leftLine, w_t_isMute, w_t_higher, w_t_over, w_t_dry, w_t_truths, w_t_failHours, w_t_failRow, w_t_keptBoards, w_t_keptHung, w_t_bodies, w_t_ran, w_t_kind, w_t_number, w_t_tellsV])), (a_t_s, .inl (cyI, 1454, .inl f_t_s)), (a_t_readBank, .inl (cyI, 3, .inl f_t_readBank)), (a_t_readMill, .inl (cyI, 3, .inl f_t_readMill)), (a_t_readLevel, .inl (cyI, 3, .inl f_t_readLevel))] H := hP
    replace hD : va_D A [(a_t, .inr (10, [w_t_thrown, .ref a_t_s, w_t_image, w_t_hasImage, w_t_act, .int i_t_spot, .int i_t_end, .int 1, w_t_open, .int i_t_readMany, w_t_readSpan, w_t_readSum, w_t_readOdds, .ref a_t_readBank, .ref a_t_readMill, .ref a_t_readLevel, w_t_levels, w_t_boardsNow, w_t_ways, w_t_nexts, w_t_hourNow, w_t_staying, w_t_leftCard, w_t_leftLine, w_t_isMute, w_t_higher, w_t_over, w_t_dry, w_t_truths, w_t_failHours, w_t_failRow, w_t_keptBoards, w_t_keptHung, w_t_bodies, w_t_ran, w_t_kind, w_t_number, w_t_tellsV])), (a_t_s, .inl (cyI, 1454, .inl f_t_s)), (a_t_readBank, .inl (cyI, 3, .inl f_t_readBank)), (a_t_readMill, .inl (cyI, 3, .inl f_t_readMill)), (a_t_readLevel, .inl (cyI, 3, .inl f_t_readLevel))] := hD
    exact W.vret hx hb hr (fun t ht hW => ⟨⟨(i_t_spot, 1, i_t_readMany, f_t_readBank, f_t_readMill, f_t_readLevel), rfl, hw, post_mk ht hP hD⟩, hS.F ht⟩) hS.2.2 dX11_reachHere_13 hlocks
set_option maxHeartbeats 8000000 in
set_option maxRecDepth 100000 in
theorem MX11_riverHere (l : Launch) (D : va_G) (cyI cyZ cyC : ClassId) (ro : va_W) (ce : Nat → CT) (cin : Nat → Prop) (ad : AD) (a_t a_t_s a_t_readBank a_t_readMill a_t_readLevel : Nat) (w_t_thrown w_t_image w_t_hasImage w_t_act w_t_open w_t_levels w_t_boardsNow w_t_ways w_t_nexts w_t_hourNow w_t_staying w_t_leftCard w_t_leftLine w_t_isMute w_t_higher w_t_over w_t_dry w_t_truths w_t_failHours w_t_failRow w_t_keptBoards w_t_keptHung w_t_bodies w_t_ran w_t_kind w_t_number w_t_tellsV : Value) (sz : Nat) (i_t_spot : Int32) (i_t_end : Int32) (i_t_isWrong : Int32) (i_t_readMany : Int32) (i_t_readSpan : Int32) (i_t_readSum : Int32) (i_t_readOdds : Int32) (f_t_s : Nat → Int32) (f_t_readBank : Nat → Int32) (f_t_readMill : Nat → Int32) (f_t_readLevel : Nat → Int32) (Q : Int32 → Int32 → Int32 → Int32 → Int32 → Int32 → (Nat → Int32) → (Nat → Int32) → (Nat → Int32) → Prop)  (hw : WX11_riverHere i_t_spot i_t_end i_t_isWrong i_t_readMany i_t_readSpan i_t_readSum i_t_readOdds f_t_s f_t_readBank f_t_readMill f_t_readLevel Q) : Met l yX11_riverHere wsX11_riverHere ({ frames := 7, cells := 0, slots := 0, locals := 148 }) (va_Pc [.ref a_t] (PRE D cyI cyZ cyC ro ce cin ad (SX11_riverHere cyI cyZ cyC a_t a_t_s a_t_readBank a_t_readMill a_t_readLevel w_t_thrown w_t_image w_t_hasImage w_t_act w_t_open w_t_levels w_t_boardsNow w_t_ways w_t_nexts w_t_hourNow w_t_staying w_t_leftCard w_t_leftLine w_t_isMute w_t_higher w_t_over w_t_dry w_t_truths w_t_failHours w_t_failRow w_t_keptBoards w_t_keptHung w_t_bodies w_t_ran w_t_kind w_t_number w_t_tellsV  i_t_spot i_t_end i_t_isWrong i_t_readMany i_t_readSpan i_t_readSum i_t_readOdds f_t_s f_t_readBank f_t_readMill f_t_readLevel) sz)) (va_Qv (fun (u : Int32 × Int32 × Int32 × Int32 × Int32 × Int32 × (Nat → Int32) × (Nat → Int32) × (Nat → Int32)) => Q u.1 u.2.1 u.2.2.1 u.2.2.2.1 u.2.2.2.2.1 u.2.2.2.2.2.1 u.2.2.2.2.2.2.1 u.2.2.2.2.2.2.2.1 u.2.2.2.2.2.2.2.2) (fun (u : Int32 × Int32 × Int32 × Int32 × Int32 × Int32 × (Nat → Int32) × (Nat → Int32) × (Nat → Int32)) (t : State) => POST D (va_A (SX11_riverHere cyI cyZ cyC a_t a_t_s a_t_readBank a_t_readMill a_t_readLevel w_t_thrown w_t_image w_t_hasImage w_t_act w_t_open w_t_levels w_t_boardsNow w_t_ways w_t_nexts w_t_hourNow w_t_staying w_t_leftCard w_t_leftLine w_t_isMute w_t_higher w_t_over w_t_dry w_t_truths w_t_failHours w_t_failRow w_t_keptBoards w_t_keptHung w_t_bodies w_t_ran w_t_kind w_t_number w_t_tellsV  i_t_spot i_t_end i_t_isWrong i_t_readMany i_t_readSpan i_t_readSum i_t_readOdds f_t_s f_t_readBank f_t_readMill f_t_readLevel) sz) (SX11_riverHere cyI cyZ cyC a_t a_t_s a_t_readBank a_t_readMill a_t_readLevel w_t_thrown w_t_image w_t_hasImage w_t_act w_t_open w_t_levels w_t_boardsNow w_t_ways w_t_nexts w_t_hourNow w_t_staying w_t_leftCard w_t_leftLine w_t_isMute w_t_higher w_t_over w_t_dry w_t_truths w_t_failHours w_t_failRow w_t_keptBoards w_t_keptHung w_t_bodies w_t_ran w_t_kind w_t_number w_t_tellsV  u.1 i_t_end u.2.1 u.2.2.1 u.2.2.2.1 u.2.2.2.2.1 u.2.2.2.2.2.1 f_t_s u.2.2.2.2.2.2.1 u.2.2.2.2.2.2.2.1 u.2.2.2.2.2.2.2.2) t) (va_A (SX11_riverHere cyI cyZ cyC a_t a_t_s a_t_readBank a_t_readMill a_t_readLevel w_t_thrown w_t_image w_t_hasImage w_t_act w_t_open w_t_levels w_t_boardsNow w_t_ways w_t_nexts w_t_hourNow w_t_staying w_t_leftCard w_t_leftLine w_t_isMute w_t_higher w_t_over w_t_dry w_t_truths w_t_failHours w_t_failRow w_t_keptBoards w_t_keptHung w_t_bodies w_t_ran w_t_kind w_t_number w_t_tellsV  i_t_spot i_t_end i_t_isWrong i_t_readMany i_t_readSpan i_t_readSum i_t_readOdds f_t_s f_t_readBank f_t_readMill f_t_readLevel) sz)) 0 0 (va_A (SX11_riverHere cyI cyZ cyC a_t a_t_s a_t_readBank a_t_readMill a_t_readLevel w_t_thrown w_t_image w_t_hasImage w_t_act w_t_open w_t_levels w_t_boardsNow w_t_ways w_t_nexts w_t_hourNow w_t_staying w_t_leftCard w_t_leftLine w_t_isMute w_t_higher w_t_over w_t_dry w_t_truths w_t_failHours w_t_failRow w_t_keptBoards w_t_keptHung w_t_bodies w_t_ran w_t_kind w_t_number w_t_tellsV  i_t_spot i_t_end i_t_isWrong i_t_readMany i_t_readSpan i_t_readSum i_t_readOdds f_t_s f_t_readBank f_t_readMill f_t_readLevel) sz) := by
  refine Met.ofW (cc := cX11_riverHere) (maxL := 3) (ret := none) (by decide +kernel) rfl ?_
  intro p e s m args below meth c s₁ B hml hv
  obtain ⟨rfl, hsz, hP, hK, hD0, hX⟩ := hv
  have hx := B.exec
  have hb := B.bytes
  have hr := B.returns
  have hts := atoms_spec (ws := wsX11_riverHere) B.pre
  have hown : s.vm.findClass RX11 = some m.cls := findClass_of_methodNamed B.named
  have hlocks := B.notSynchronized
  clear B
  subst hsz
  have hD := hD0.self (sz := s.heap.size)
  clear hD0
  generalize hAe : va_A (SX11_riverHere cyI cyZ cyC a_t a_t_s a_t_readBank a_t_readMill a_t_readLevel w_t_thrown w_t_image w_t_hasImage w_t_act w_t_open w_t_levels w_t_boardsNow w_t_ways w_t_nexts w_t_hourNow w_t_staying w_t_leftCard w_t_leftLine w_t_isMute w_t_higher w_t_over w_t_dry w_t_truths w_t_failHours w_t_failRow w_t_keptBoards w_t_keptHung w_t_bodies w_t_ran w_t_kind w_t_number w_t_tellsV  i_t_spot i_t_end i_t_isWrong i_t_readMany i_t_readSpan i_t_readSum i_t_readOdds f_t_s f_t_readBank f_t_readMill f_t_readLevel) s.heap.size = A at hD hX ⊢
  have hA : ∀ q : Nat, s.heap.size ≤ q → A q := fun q h => by rw [← hAe]; exact Or.inr h
  clear hAe
  obtain ⟨H, hH⟩ : ∃ H, H = s.heap := ⟨_, rfl⟩
  rw [← hH] at hP ⊢
  have hS : va_S A s.heap H [] := by rw [hH]; exact va_S.rf
  clear hH
  replace hP : va_P D vwCl [(a_t, .inr (10, [w_t_thrown, .ref a_t_s, w_t_image, w_t_hasImage, w_t_act, .int i_t_spot, .int i_t_end, .int i_t_isWrong, w_t_open, .int i_t_readMany, .int i_t_readSpan, .int i_t_readSum, .int i_t_readOdds, .ref a_t_readBank, .ref a_t_readMill, .ref a_t_readLevel, w_t_levels, w_t_boardsNow, w_t_ways, w_t_nexts, w_t_hourNow, w_t_staying, w_t_leftCard, w_t_leftLine, w_t_isMute, w_t_higher, w_t_over, w_t_dry, w_t_truths, w_t_failHours, w_t_failRow, w_t_keptBoards, w_t_keptHung, w_t_bodies, w_t_ran, w_t_kind, w_t_number, w_t_tellsV])), (a_t_s, .inl (cyI, 1454, .inl f_t_s)), (a_t_readBank, .inl (cyI, 3, .inl f_t_readBank)), (a_t_readMill, .inl (cyI, 3, .inl f_t_readMill)), (a_t_readLevel, .inl (cyI, 3, .inl f_t_readLevel))] H := hP
  replace hD : va_D A [(a_t, .inr (10, [w_t_thrown, .ref a_t_s, w_t_image, w_t_hasImage, w_t_act, .int i_t_spot, .int i_t_end, .int i_t_isWrong, w_t_open, .int i_t_readMany, .int i_t_readSpan, .int i_t_readSum, .int i_t_readOdds, .ref a_t_readBank, .ref a_t_readMill, .ref a_t_readLevel, w_t_levels, w_t_boardsNow, w_t_ways, w_t_nexts, w_t_hourNow, w_t_staying, w_t_leftCard, w_t_leftLine, w_t_isMute, w_t_higher, w_t_over, w_t_dry, w_t_truths, w_t_failHours, w_t_failRow, w_t_keptBoards, w_t_keptHung, w_t_bodies, w_t_ran, w_t_kind, w_t_number, w_t_tellsV])), (a_t_s, .inl (cyI, 1454, .inl f_t_s)), (a_t_readBank, .inl (cyI, 3, .inl f_t_readBank)), (a_t_readMill, .inl (cyI, 3, .inl f_t_readMill)), (a_t_readLevel, .inl (cyI, 3, .inl f_t_readLevel))] := hD
  have hl := lv_entry ([.ref a_t]) (n := 3) (Nat.le_of_ble_eq_true rfl)
  rw [lg_entry_eq]
  generalize (lg_sl ([.ref a_t]) ++ List.replicate (3 - (lg_sl ([.ref a_t])).length) Slot.unset).toArray = ls at hl ⊢
  replace hl : lv_has ls 3 [(0, .ref a_t)] := hl
  have B120 : ∀ (s1 : Int32) (i_t_spot : Int32) (i_t_isWrong : Int32) (i_t_readMany : Int32) (i_t_readSpan : Int32) (i_t_readSum : Int32) (i_t_readOdds : Int32) (f_t_readBank : Nat → Int32) (f_t_readMill : Nat → Int32) (f_t_readLevel : Nat → Int32), WX11_riverHere_120 i_t_end f_t_s s1 i_t_spot i_t_isWrong i_t_readMany i_t_readSpan i_t_readSum i_t_readOdds f_t_readBank f_t_readMill f_t_readLevel Q  → ∀ (H : Heap) (locs : List Loc), va_P D vwCl [(a_t, .inr (10, [w_t_thrown, .ref a_t_s, w_t_image, w_t_hasImage, w_t_act, .int i_t_spot, .int i_t_end, .int i_t_isWrong, w_t_open, .int i_t_readMany, .int i_t_readSpan, .int i_t_readSum, .int i_t_readOdds, .ref a_t_readBank, .ref a_t_readMill, .ref a_t_readLevel, w_t_levels, w_t_boardsNow, w_t_ways, w_t_nexts, w_t_hourNow, w_t_staying, w_t_leftCard, w_t_leftLine, w_t_isMute, w_t_higher, w_t_over, w_t_dry, w_t_truths, w_t_failHours, w_t_failRow, w_t_keptBoards, w_t_keptHung, w_t_bodies, w_t_ran, w_t_kind, w_t_number, w_t_tellsV])), (a_t_s, .inl (cyI, 1454, .inl f_t_s)), (a_t_readBank, .inl (cyI, 3, .inl f_t_readBank)), (a_t_readMill, .inl (cyI, 3, .inl f_t_readMill)), (a_t_readLevel, .inl (cyI, 3, .inl f_t_readLevel))] H → va_D A [(a_t, .inr (10, [w_t_thrown, .ref a_t_s, w_t_image, w_t_hasImage, w_t_act, .int i_t_spot, .int i_t_end, .int i_t_isWrong, w_t_open, .int i_t_readMany, .int i_t_readSpan, .int i_t_readSum, .int i_t_readOdds, .ref a_t_readBank, .ref a_t_readMill, .ref a_t_readLevel, w_t_levels, w_t_boardsNow, w_t_ways, w_t_nexts, w_t_hourNow, w_t_staying, w_t_leftCard, w_t_leftLine, w_t_isMute, w_t_higher, w_t_over, w_t_dry, w_t_truths, w_t_failHours, w_t_failRow, w_t_keptBoards, w_t_keptHung, w_t_bodies, w_t_ran, w_t_kind, w_t_number, w_t_tellsV])), (a_t_s, .inl (cyI, 1454, .inl f_t_s)), (a_t_readBank, .inl (cyI, 3, .inl f_t_readBank)), (a_t_readMill, .inl (cyI, 3, .inl f_t_readMill)), (a_t_readLevel, .inl (cyI, 3, .inl f_t_readLevel))] → va_S A s.heap H locs → ∀ (ls : Array Slot), lv_has ls 3 [] → W p l e { frames := 7, cells := 0, slots := 0, locals := 148 } s m ([.ref a_t] : List Value).toArray below meth c H locs 0 0 (MQ below (va_Qv (fun (u : Int32 × Int32 × Int32 × Int32 × Int32 × Int32 × (Nat → Int32) × (Nat → Int32) × (Nat → Int32)) => Q u.1 u.2.1 u.2.2.1 u.2.2.2.1 u.2.2.2.2.1 u.2.2.2.2.2.1 u.2.2.2.2.2.2.1 u.2.2.2.2.2.2.2.1 u.2.2.2.2.2.2.2.2) (fun (u : Int32 × Int32 × Int32 × Int32 × Int32 × Int32 × (Nat → Int32) × (Nat → Int32) × (Nat → Int32)) (t : State) => POST D A (SX11_riverHere cyI cyZ cyC a_t a_t_s a_t_readBank a_t_readMill a_t_readLevel w_t_thrown w_t_image w_t_hasImage w_t_act w_t_open w_t_levels w_t_boardsNow w_t_ways w_t_nexts w_t_hourNow w_t_staying w_t_leftCard w_t_leftLine w_t_isMute w_t_higher w_t_over w_t_dry w_t_truths w_t_failHours w_t_failRow w_t_keptBoards w_t_keptHung w_t_bodies w_t_ran w_t_kind w_t_number w_t_tellsV  u.1 i_t_end u.2.1 u.2.2.1 u.2.2.2.1 u.2.2.2.2.1 u.2.2.2.2.2.1 f_t_s u.2.2.2.2.2.2.1 u.2.2.2.2.2.2.2.1 u.2.2.2.2.2.2.2.2) t) A) ([.ref a_t] : List Value).toArray s 0 0 A) (F0 m 120 ls [.int s1, .ref a_t]) := by
    intro s1 i_t_spot i_t_isWrong i_t_readMany i_t_readSpan i_t_readSum i_t_readOdds f_t_readBank f_t_readMill f_t_readLevel hw H locs hP hD hS ls hl
    unfold WX11_riverHere_120 at hw
    refine va_put (D := D) (ci := 10) (v := .int s1) (ty := .int) (C := RX11) (T := TX11) (N := 38) hx hb hts inX11_riverHere_X11 tyX11 tyX11_ok nmX11 hown hK hP hD hS 0 rfl rfl 11 (by decide) (hts _ (List.mem_of_getElem? (i := 2) rfl)) (fun _ h9 => h9) rfl (tyX11_ok 11 (by decide)) rfl rfl (Nat.le_of_ble_eq_true rfl) dX11_riverHere_120 (fun H locs hP hD hS => ?_)
    replace hP : va_P D vwCl [(a_t, .inr (10, [w_t_thrown, .ref a_t_s, w_t_image, w_t_hasImage, w_t_act, .int i_t_spot, .int i_t_end, .int i_t_isWrong, w_t_open, .int i_t_readMany, .int i_t_readSpan, .int s1, .int i_t_readOdds, .ref a_t_readBank, .ref a_t_readMill, .ref a_t_readLevel, w_t_levels, w_t_boardsNow, w_t_ways, w_t_nexts, w_t_hourNow, w_t_staying, w_t_leftCard, w_t_leftLine, w_t_isMute, w_t_higher, w_t_over, w_t_dry, w_t_truths, w_t_failHours, w_t_failRow, w_t_keptBoards, w_t_keptHung, w_t_bodies, w_t_ran, w_t_kind, w_t_number, w_t_tellsV])), (a_t_s, .inl (cyI, 1454, .inl f_t_s)), (a_t_readBank, .inl (cyI, 3, .inl f_t_readBank)), (a_t_readMill, .inl (cyI, 3, .inl f_t_readMill)), (a_t_readLevel, .inl (cyI, 3, .inl f_t_readLevel))] H := hP
    replace hD : va_D A [(a_t, .inr (10, [w_t_thrown, .ref a_t_s, w_t_image, w_t_hasImage, w_t_act, .int i_t_spot, .int i_t_end, .int i_t_isWrong, w_t_open, .int i_t_readMany, .int i_t_readSpan, .int s1, .int i_t_readOdds, .ref a_t_readBank, .ref a_t_readMill, .ref a_t_readLevel, w_t_levels, w_t_boardsNow, w_t_ways, w_t_nexts, w_t_hourNow, w_t_staying, w_t_leftCard, w_t_leftLine, w_t_isMute, w_t_higher, w_t_over, w_t_dry, w_t_truths, w_t_failHours, w_t_failRow, w_t_keptBoards, w_t_keptHung, w_t_bodies, w_t_ran, w_t_kind, w_t_number, w_t_tellsV])), (a_t_s, .inl (cyI, 1454, .inl f_t_s)), (a_t_readBank, .inl (cyI, 3, .inl f_t_readBank)), (a_t_readMill, .inl (cyI, 3, .inl f_t_readMill)), (a_t_readLevel, .inl (cyI, 3, .inl f_t_readLevel))] := hD
    refine lv_goto (tgt := 151) hx hb dX11_riverHere_123 (by decide) ?_
    exact W.vret hx hb hr (fun t ht hW => ⟨⟨(i_t_spot, i_t_isWrong, i_t_readMany, i_t_readSpan, s1, i_t_readOdds, f_t_readBank, f_t_readMill, f_t_readLevel), rfl, hw, post_mk ht hP hD⟩, hS.F ht⟩) hS.2.2 dX11_riverHere_151 hlocks
  have B104 : ∀ (x1 : Int32) (x2 : Int32) (s1 : Int32) (i_t_spot : Int32) (i_t_isWrong : Int32) (i_t_readMany : Int32) (i_t_readSpan : Int32) (i_t_readSum : Int32) (i_t_readOdds : Int32) (f_t_readBank : Nat → Int32) (f_t_readMill : Nat → Int32) (f_t_readLevel : Nat → Int32), WX11_riverHere_104 i_t_end f_t_s x1 x2 s1 i_t_spot i_t_isWrong i_t_readMany i_t_readSpan i_t_readSum i_t_readOdds f_t_readBank f_t_readMill f_t_readLevel Q  → ∀ (H : Heap) (locs : List Loc), va_P D vwCl [(a_t, .inr (10, [w_t_thrown, .ref a_t_s, w_t_image, w_t_hasImage, w_t_act, .int i_t_spot, .int i_t_end, .int i_t_isWrong, w_t_open, .int i_t_readMany, .int i_t_readSpan, .int i_t_readSum, .int i_t_readOdds, .ref a_t_readBank, .ref a_t_readMill, .ref a_t_readLevel, w_t_levels, w_t_boardsNow, w_t_ways, w_t_nexts, w_t_hourNow, w_t_staying, w_t_leftCard, w_t_leftLine, w_t_isMute, w_t_higher, w_t_over, w_t_dry, w_t_truths, w_t_failHours, w_t_failRow, w_t_keptBoards, w_t_keptHung, w_t_bodies, w_t_ran, w_t_kind, w_t_number, w_t_tellsV])), (a_t_s, .inl (cyI, 1454, .inl f_t_s)), (a_t_readBank, .inl (cyI, 3, .inl f_t_readBank)), (a_t_readMill, .inl (cyI, 3, .inl f_t_readMill)), (a_t_readLevel, .inl (cyI, 3, .inl f_t_readLevel))] H → va_D A [(a_t, .inr (10, [w_t_thrown, .ref a_t_s, w_t_image, w_t_hasImage, w_t_act, .int i_t_spot, .int i_t_end, .int i_t_isWrong, w_t_open, .int i_t_readMany, .int i_t_readSpan, .int i_t_readSum, .int i_t_readOdds, .ref a_t_readBank, .ref a_t_readMill, .ref a_t_readLevel, w_t_levels, w_t_boardsNow, w_t_ways, w_t_nexts, w_t_hourNow, w_t_staying, w_t_leftCard, w_t_leftLine, w_t_isMute, w_t_higher, w_t_over, w_t_dry, w_t_truths, w_t_failHours, w_t_failRow, w_t_keptBoards, w_t_keptHung, w_t_bodies, w_t_ran, w_t_kind, w_t_number, w_t_tellsV])), (a_t_s, .inl (cyI, 1454, .inl f_t_s)), (a_t_readBank, .inl (cyI, 3, .inl f_t_readBank)), (a_t_readMill, .inl (cyI, 3, .inl f_t_readMill)), (a_t_readLevel, .inl (cyI, 3, .inl f_t_readLevel))] → va_S A s.heap H locs → ∀ (ls : Array Slot), lv_has ls 3 [(0, .ref a_t), (1, .int x1), (2, .int x2)] → W p l e { frames := 7, cells := 0, slots := 0, locals := 148 } s m ([.ref a_t] : List Value).toArray below meth c H locs 0 0 (MQ below (va_Qv (fun (u : Int32 × Int32 × Int32 × Int32 × Int32 × Int32 × (Nat → Int32) × (Nat → Int32) × (Nat → Int32)) => Q u.1 u.2.1 u.2.2.1 u.2.2.2.1 u.2.2.2.2.1 u.2.2.2.2.2.1 u.2.2.2.2.2.2.1 u.2.2.2.2.2.2.2.1 u.2.2.2.2.2.2.2.2) (fun (u : Int32 × Int32 × Int32 × Int32 × Int32 × Int32 × (Nat → Int32) × (Nat → Int32) × (Nat → Int32)) (t : State) => POST D A (SX11_riverHere cyI cyZ cyC a_t a_t_s a_t_readBank a_t_readMill a_t_readLevel w_t_thrown w_t_image w_t_hasImage w_t_act w_t_open w_t_levels w_t_boardsNow w_t_ways w_t_nexts w_t_hourNow w_t_staying w_t_leftCard w_t_leftLine w_t_isMute w_t_higher w_t_over w_t_dry w_t_truths w_t_failHours w_t_failRow w_t_keptBoards w_t_keptHung w_t_bodies w_t_ran w_t_kind w_t_number w_t_tellsV  u.1 i_t_end u.2.1 u.2.2.1 u.2.2.2.1 u.2.2.2.2.1 u.2.2.2.2.2.1 f_t_s u.2.2.2.2.2.2.1 u.2.2.2.2.2.2.2.1 u.2.2.2.2.2.2.2.2) t) A) ([.ref a_t] : List Value).toArray s 0 0 A) (F0 m 104 ls [.int s1, .ref a_t]) := by
    intro x1 x2 s1 i_t_spot i_t_isWrong i_t_readMany i_t_readSpan i_t_readSum i_t_readOdds f_t_readBank f_t_readMill f_t_readLevel hw H locs hP hD hS ls hl
    unfold WX11_riverHere_104 at hw
    refine va_put (D := D) (ci := 10) (v := .int s1) (ty := .int) (C := RX11) (T := TX11) (N := 38) hx hb hts inX11_riverHere_X11 tyX11 tyX11_ok nmX11 hown hK hP hD hS 0 rfl rfl 10 (by decide) (hts _ (List.mem_of_getElem? (i := 1) rfl)) (fun _ h9 => h9) rfl (tyX11_ok 10 (by decide)) rfl rfl (Nat.le_of_ble_eq_true rfl) dX11_riverHere_104 (fun H locs hP hD hS => ?_)
    replace hP : va_P D vwCl [(a_t, .inr (10, [w_t_thrown, .ref a_t_s, w_t_image, w_t_hasImage, w_t_act, .int i_t_spot, .int i_t_end, .int i_t_isWrong, w_t_open, .int i_t_readMany, .int s1, .int i_t_readSum, .int i_t_readOdds, .ref a_t_readBank, .ref a_t_readMill, .ref a_t_readLevel, w_t_levels, w_t_boardsNow, w_t_ways, w_t_nexts, w_t_hourNow, w_t_staying, w_t_leftCard, w_t_leftLine, w_t_isMute, w_t_higher, w_t_over, w_t_dry, w_t_truths, w_t_failHours, w_t_failRow, w_t_keptBoards, w_t_keptHung, w_t_bodies, w_t_ran, w_t_kind, w_t_number, w_t_tellsV])), (a_t_s, .inl (cyI, 1454, .inl f_t_s)), (a_t_readBank, .inl (cyI, 3, .inl f_t_readBank)), (a_t_readMill, .inl (cyI, 3, .inl f_t_readMill)), (a_t_readLevel, .inl (cyI, 3, .inl f_t_readLevel))] H := hP
    replace hD : va_D A [(a_t, .inr (10, [w_t_thrown, .ref a_t_s, w_t_image, w_t_hasImage, w_t_act, .int i_t_spot, .int i_t_end, .int i_t_isWrong, w_t_open, .int i_t_readMany, .int s1, .int i_t_readSum, .int i_t_readOdds, .ref a_t_readBank, .ref a_t_readMill, .ref a_t_readLevel, w_t_levels, w_t_boardsNow, w_t_ways, w_t_nexts, w_t_hourNow, w_t_staying, w_t_leftCard, w_t_leftLine, w_t_isMute, w_t_higher, w_t_over, w_t_dry, w_t_truths, w_t_failHours, w_t_failRow, w_t_keptBoards, w_t_keptHung, w_t_bodies, w_t_ran, w_t_kind, w_t_number, w_t_tellsV])), (a_t_s, .inl (cyI, 1454, .inl f_t_s)), (a_t_readBank, .inl (cyI, 3, .inl f_t_readBank)), (a_t_readMill, .inl (cyI, 3, .inl f_t_readMill)), (a_t_readLevel, .inl (cyI, 3, .inl f_t_readLevel))] := hD
    refine lv_aload_n hx hb dX11_riverHere_107 rfl (lv_at hl 0 rfl) ?_
    refine lv_iload_n hx hb dX11_riverHere_108 rfl (lv_at hl 1 rfl) ?_
    refine lv_if_eq (tgt := 119) hx hb dX11_riverHere_109 (by decide) (fun c27 => ?_) (fun c27 => ?_)
    · replace hw := hw.1 c27
      refine lv_iload_n hx hb dX11_riverHere_119 rfl (lv_at hl 2 rfl) ?_
      exact B120 x2 i_t_spot i_t_isWrong i_t_readMany s1 i_t_readSum i_t_readOdds f_t_readBank f_t_readMill f_t_readLevel hw _ _ hP hD hS _ (lv_sub hl [] rfl)
    · replace hw := hw.2 c27
      refine lv_aload_n hx hb dX11_riverHere_112 rfl (lv_at hl 0 rfl) ?_
      refine va_get (D := D) (ci := 10) (v := .int i_t_readSum) (C := RX11) (T := TX11) (N := 38) hx hb hts inX11_riverHere_X11 hown hK hP 0 rfl rfl 11 (by decide) (hts _ (List.mem_of_getElem? (i := 2) rfl)) (fun _ h9 => h9) rfl dX11_riverHere_113 ?_
      refine lv_goto (tgt := 120) hx hb dX11_riverHere_116 (by decide) ?_
      exact B120 i_t_readSum i_t_spot i_t_isWrong i_t_readMany s1 i_t_readSum i_t_readOdds f_t_readBank f_t_readMill f_t_readLevel hw _ _ hP hD hS _ (lv_sub hl [] rfl)
  have B80 : ∀ (x1 : Int32) (i_t_spot : Int32) (i_t_isWrong : Int32) (i_t_readMany : Int32) (i_t_readSpan : Int32) (i_t_readSum : Int32) (i_t_readOdds : Int32) (f_t_readBank : Nat → Int32) (f_t_readMill : Nat → Int32) (f_t_readLevel : Nat → Int32), WX11_riverHere_80 i_t_end f_t_s x1 i_t_spot i_t_isWrong i_t_readMany i_t_readSpan i_t_readSum i_t_readOdds f_t_readBank f_t_readMill f_t_readLevel Q  → ∀ (H : Heap) (locs : List Loc), va_P D vwCl [(a_t, .inr (10, [w_t_thrown, .ref a_t_s, w_t_image, w_t_hasImage, w_t_act, .int i_t_spot, .int i_t_end, .int i_t_isWrong, w_t_open, .int i_t_readMany, .int i_t_readSpan, .int i_t_readSum, .int i_t_readOdds, .ref a_t_readBank, .ref a_t_readMill, .ref a_t_readLevel, w_t_levels, w_t_boardsNow, w_t_ways, w_t_nexts, w_t_hourNow, w_t_staying, w_t_leftCard, w_t_leftLine, w_t_isMute, w_t_higher, w_t_over, w_t_dry, w_t_truths, w_t_failHours, w_t_failRow, w_t_keptBoards, w_t_keptHung, w_t_bodies, w_t_ran, w_t_kind, w_t_number, w_t_tellsV])), (a_t_s, .inl (cyI, 1454, .inl f_t_s)), (a_t_readBank, .inl (cyI, 3, .inl f_t_readBank)), (a_t_readMill, .inl (cyI, 3, .inl f_t_readMill)), (a_t_readLevel, .inl (cyI, 3, .inl f_t_readLevel))] H → va_D A [(a_t, .inr (10, [w_t_thrown, .ref a_t_s, w_t_image, w_t_hasImage, w_t_act, .int i_t_spot, .int i_t_end, .int i_t_isWrong, w_t_open, .int i_t_readMany, .int i_t_readSpan, .int i_t_readSum, .int i_t_readOdds, .ref a_t_readBank, .ref a_t_readMill, .ref a_t_readLevel, w_t_levels, w_t_boardsNow, w_t_ways, w_t_nexts, w_t_hourNow, w_t_staying, w_t_leftCard, w_t_leftLine, w_t_isMute, w_t_higher, w_t_over, w_t_dry, w_t_truths, w_t_failHours, w_t_failRow, w_t_keptBoards, w_t_keptHung, w_t_bodies, w_t_ran, w_t_kind, w_t_number, w_t_tellsV])), (a_t_s, .inl (cyI, 1454, .inl f_t_s)), (a_t_readBank, .inl (cyI, 3, .inl f_t_readBank)), (a_t_readMill, .inl (cyI, 3, .inl f_t_readMill)), (a_t_readLevel, .inl (cyI, 3, .inl f_t_readLevel))] → va_S A s.heap H locs → ∀ (ls : Array Slot), lv_has ls 3 [(0, .ref a_t), (1, .int x1)] → W p l e { frames := 7, cells := 0, slots := 0, locals := 148 } s m ([.ref a_t] : List Value).toArray below meth c H locs 0 0 (MQ below (va_Qv (fun (u : Int32 × Int32 × Int32 × Int32 × Int32 × Int32 × (Nat → Int32) × (Nat → Int32) × (Nat → Int32)) => Q u.1 u.2.1 u.2.2.1 u.2.2.2.1 u.2.2.2.2.1 u.2.2.2.2.2.1 u.2.2.2.2.2.2.1 u.2.2.2.2.2.2.2.1 u.2.2.2.2.2.2.2.2) (fun (u : Int32 × Int32 × Int32 × Int32 × Int32 × Int32 × (Nat → Int32) × (Nat → Int32) × (Nat → Int32)) (t : State) => POST D A (SX11_riverHere cyI cyZ cyC a_t a_t_s a_t_readBank a_t_readMill a_t_readLevel w_t_thrown w_t_image w_t_hasImage w_t_act w_t_open w_t_levels w_t_boardsNow w_t_ways w_t_nexts w_t_hourNow w_t_staying w_t_leftCard w_t_leftLine w_t_isMute w_t_higher w_t_over w_t_dry w_t_truths w_t_failHours w_t_failRow w_t_keptBoards w_t_keptHung w_t_bodies w_t_ran w_t_kind w_t_number w_t_tellsV  u.1 i_t_end u.2.1 u.2.2.1 u.2.2.2.1 u.2.2.2.2.1 u.2.2.2.2.2.1 f_t_s u.2.2.2.2.2.2.1 u.2.2.2.2.2.2.2.1 u.2.2.2.2.2.2.2.2) t) A) ([.ref a_t] : List Value).toArray s 0 0 A) (F0 m 80 ls [.ref (ad.1 3), .ref a_t]) := by
    intro x1 i_t_spot i_t_isWrong i_t_readMany i_t_readSpan i_t_readSum i_t_readOdds f_t_readBank f_t_readMill f_t_readLevel hw H locs hP hD hS ls hl
    unfold WX11_riverHere_80 at hw
    obtain ⟨QK, eQ, hq⟩ := genq (P := WX11_spells 3 i_t_spot i_t_end i_t_isWrong f_t_s) hw
    clear hw
    have hPc := hP.sub (ws' := [(a_t, .inr (10, [w_t_thrown, .ref a_t_s, w_t_image, w_t_hasImage, w_t_act, .int i_t_spot, .int i_t_end, .int i_t_isWrong, w_t_open, .int i_t_readMany, .int i_t_readSpan, .int i_t_readSum, .int i_t_readOdds, .ref a_t_readBank, .ref a_t_readMill, .ref a_t_readLevel, w_t_levels, w_t_boardsNow, w_t_ways, w_t_nexts, w_t_hourNow, w_t_staying, w_t_leftCard, w_t_leftLine, w_t_isMute, w_t_higher, w_t_over, w_t_dry, w_t_truths, w_t_failHours, w_t_failRow, w_t_keptBoards, w_t_keptHung, w_t_bodies, w_t_ran, w_t_kind, w_t_number, w_t_tellsV])), (a_t_s, .inl (cyI, 1454, .inl f_t_s))]) [0, 1] rfl
    have hDc := hD.sub (ws' := [(a_t, .inr (10, [w_t_thrown, .ref a_t_s, w_t_image, w_t_hasImage, w_t_act, .int i_t_spot, .int i_t_end, .int i_t_isWrong, w_t_open, .int i_t_readMany, .int i_t_readSpan, .int i_t_readSum, .int i_t_readOdds, .ref a_t_readBank, .ref a_t_readMill, .ref a_t_readLevel, w_t_levels, w_t_boardsNow, w_t_ways, w_t_nexts, w_t_hourNow, w_t_staying, w_t_leftCard, w_t_leftLine, w_t_isMute, w_t_higher, w_t_over, w_t_dry, w_t_truths, w_t_failHours, w_t_failRow, w_t_keptBoards, w_t_keptHung, w_t_bodies, w_t_ran, w_t_kind, w_t_number, w_t_tellsV])), (a_t_s, .inl (cyI, 1454, .inl f_t_s))]) [0, 1] (by decide) rfl
    have hFc := va_free (wc := [(a_t, .inr (10, [w_t_thrown, .ref a_t_s, w_t_image, w_t_hasImage, w_t_act, .int i_t_spot, .int i_t_end, .int i_t_isWrong, w_t_open, .int i_t_readMany, .int i_t_readSpan, .int i_t_readSum, .int i_t_readOdds, .ref a_t_readBank, .ref a_t_readMill, .ref a_t_readLevel, w_t_levels, w_t_boardsNow, w_t_ways, w_t_nexts, w_t_hourNow, w_t_staying, w_t_leftCard, w_t_leftLine, w_t_isMute, w_t_higher, w_t_over, w_t_dry, w_t_truths, w_t_failHours, w_t_failRow, w_t_keptBoards, w_t_keptHung, w_t_bodies, w_t_ran, w_t_kind, w_t_number, w_t_tellsV])), (a_t_s, .inl (cyI, 1454, .inl f_t_s))]) hD hS hA [0, 1] rfl
    refine va_callv (va_runV (As := [.ref (ad.1 3)]) (rest := []) ⟨hx, hb, hml, hown, hts⟩ (MX11_spells l D cyI cyZ cyC ro ce cin ad a_t a_t_s  (w_t_thrown) (w_t_image) (w_t_hasImage) (w_t_act) (w_t_open) (.int i_t_readMany) (.int i_t_readSpan) (.int i_t_readSum) (.int i_t_readOdds) (.ref a_t_readBank) (.ref a_t_readMill) (.ref a_t_readLevel) (w_t_levels) (w_t_boardsNow) (w_t_ways) (w_t_nexts) (w_t_hourNow) (w_t_staying) (w_t_leftCard) (w_t_leftLine) (w_t_isMute) (w_t_higher) (w_t_over) (w_t_dry) (w_t_truths) (w_t_failHours) (w_t_failRow) (w_t_keptBoards) (w_t_keptHung) (w_t_bodies) (w_t_ran) (w_t_kind) (w_t_number) (w_t_tellsV) H.size 3 i_t_spot i_t_end i_t_isWrong f_t_s QK (by decide) hq) (cwV 1 hts gX11_riverHere_X11_spells rfl rfl rfl ⟨rfl, dmX11_spells⟩ ⟨Nat.le_of_ble_eq_true rfl, Nat.le_of_ble_eq_true rfl⟩) ⟨pre_bl, va_recv hK hPc (ci := 10) (q0 := 0) rfl rfl, fun U hU hW => ⟨rfl, pre_of hX hS hK hPc hDc hFc hU hW⟩⟩ rfl rfl hl.1 rfl (lv_room (Nat.le_of_ble_eq_true rfl)) dX11_riverHere_80 ⟨Nat.zero_le _, Nat.zero_le _⟩) hS (fun q _ h => hFc q h) hFc (fun u t H1 locs ht hvm hw hB hz1 hk1 hS => ?_)
    obtain ⟨i_t_spot_21, i_t_isWrong_22⟩ := u
    replace hw : QK i_t_spot_21 i_t_isWrong_22 := hw
    clear hq
    subst eQ
    obtain ⟨hP1, hD1⟩ := hB
    rw [ht] at hP1
    obtain ⟨hP, hD⟩ := va_join (wr := [(a_t_readBank, .inl (cyI, 3, .inl f_t_readBank)), (a_t_readMill, .inl (cyI, 3, .inl f_t_readMill)), (a_t_readLevel, .inl (cyI, 3, .inl f_t_readLevel))]) (w1 := [(a_t, .inr (10, [w_t_thrown, .ref a_t_s, w_t_image, w_t_hasImage, w_t_act, .int i_t_spot_21, .int i_t_end, .int i_t_isWrong_22, w_t_open, .int i_t_readMany, .int i_t_readSpan, .int i_t_readSum, .int i_t_readOdds, .ref a_t_readBank, .ref a_t_readMill, .ref a_t_readLevel, w_t_levels, w_t_boardsNow, w_t_ways, w_t_nexts, w_t_hourNow, w_t_staying, w_t_leftCard, w_t_leftLine, w_t_isMute, w_t_higher, w_t_over, w_t_dry, w_t_truths, w_t_failHours, w_t_failRow, w_t_keptBoards, w_t_keptHung, w_t_bodies, w_t_ran, w_t_kind, w_t_number, w_t_tellsV])), (a_t_s, .inl (cyI, 1454, .inl f_t_s))]) hP hD [0, 1] [2, 3, 4] rfl rfl (by decide) (by decide) hk1 hFc hP1 hD1
    clear hPc hDc hFc hk1 hz1 hP1 hD1 ht hvm
    generalize H1 = H at hP hS ⊢
    replace hP : va_P D vwCl [(a_t_readBank, .inl (cyI, 3, .inl f_t_readBank)), (a_t_readMill, .inl (cyI, 3, .inl f_t_readMill)), (a_t_readLevel, .inl (cyI, 3, .inl f_t_readLevel)), (a_t, .inr (10, [w_t_thrown, .ref a_t_s, w_t_image, w_t_hasImage, w_t_act, .int i_t_spot_21, .int i_t_end, .int i_t_isWrong_22, w_t_open, .int i_t_readMany, .int i_t_readSpan, .int i_t_readSum, .int i_t_readOdds, .ref a_t_readBank, .ref a_t_readMill, .ref a_t_readLevel, w_t_levels, w_t_boardsNow, w_t_ways, w_t_nexts, w_t_hourNow, w_t_staying, w_t_leftCard, w_t_leftLine, w_t_isMute, w_t_higher, w_t_over, w_t_dry, w_t_truths, w_t_failHours, w_t_failRow, w_t_keptBoards, w_t_keptHung, w_t_bodies, w_t_ran, w_t_kind, w_t_number, w_t_tellsV])), (a_t_s, .inl (cyI, 1454, .inl f_t_s))] H := hP
    replace hD : va_D A [(a_t_readBank, .inl (cyI, 3, .inl f_t_readBank)), (a_t_readMill, .inl (cyI, 3, .inl f_t_readMill)), (a_t_readLevel, .inl (cyI, 3, .inl f_t_readLevel)), (a_t, .inr (10, [w_t_thrown, .ref a_t_s, w_t_image, w_t_hasImage, w_t_act, .int i_t_spot_21, .int i_t_end, .int i_t_isWrong_22, w_t_open, .int i_t_readMany, .int i_t_readSpan, .int i_t_readSum, .int i_t_readOdds, .ref a_t_readBank, .ref a_t_readMill, .ref a_t_readLevel, w_t_levels, w_t_boardsNow, w_t_ways, w_t_nexts, w_t_hourNow, w_t_staying, w_t_leftCard, w_t_leftLine, w_t_isMute, w_t_higher, w_t_over, w_t_dry, w_t_truths, w_t_failHours, w_t_failRow, w_t_keptBoards, w_t_keptHung, w_t_bodies, w_t_ran, w_t_kind, w_t_number, w_t_tellsV])), (a_t_s, .inl (cyI, 1454, .inl f_t_s))] := hD
    refine lv_aload_n hx hb dX11_riverHere_83 rfl (lv_at hl 0 rfl) ?_
    refine lv_iconst (v := 0) hx hb dX11_riverHere_84 (by decide) ?_
    refine lv_bipush (v := 9) hx hb dX11_riverHere_85 (by decide) ?_
    obtain ⟨QK, eQ, hq⟩ := genq (P := WX11_figure 0 9 i_t_spot_21 i_t_end i_t_isWrong_22 f_t_s) hw
    clear hw
    have hPc := hP.sub (ws' := [(a_t, .inr (10, [w_t_thrown, .ref a_t_s, w_t_image, w_t_hasImage, w_t_act, .int i_t_spot_21, .int i_t_end, .int i_t_isWrong_22, w_t_open, .int i_t_readMany, .int i_t_readSpan, .int i_t_readSum, .int i_t_readOdds, .ref a_t_readBank, .ref a_t_readMill, .ref a_t_readLevel, w_t_levels, w_t_boardsNow, w_t_ways, w_t_nexts, w_t_hourNow, w_t_staying, w_t_leftCard, w_t_leftLine, w_t_isMute, w_t_higher, w_t_over, w_t_dry, w_t_truths, w_t_failHours, w_t_failRow, w_t_keptBoards, w_t_keptHung, w_t_bodies, w_t_ran, w_t_kind, w_t_number, w_t_tellsV])), (a_t_s, .inl (cyI, 1454, .inl f_t_s))]) [3, 4] rfl
    have hDc := hD.sub (ws' := [(a_t, .inr (10, [w_t_thrown, .ref a_t_s, w_t_image, w_t_hasImage, w_t_act, .int i_t_spot_21, .int i_t_end, .int i_t_isWrong_22, w_t_open, .int i_t_readMany, .int i_t_readSpan, .int i_t_readSum, .int i_t_readOdds, .ref a_t_readBank, .ref a_t_readMill, .ref a_t_readLevel, w_t_levels, w_t_boardsNow, w_t_ways, w_t_nexts, w_t_hourNow, w_t_staying, w_t_leftCard, w_t_leftLine, w_t_isMute, w_t_higher, w_t_over, w_t_dry, w_t_truths, w_t_failHours, w_t_failRow, w_t_keptBoards, w_t_keptHung, w_t_bodies, w_t_ran, w_t_kind, w_t_number, w_t_tellsV])), (a_t_s, .inl (cyI, 1454, .inl f_t_s))]) [3, 4] (by decide) rfl
    have hFc := va_free (wc := [(a_t, .inr (10, [w_t_thrown, .ref a_t_s, w_t_image, w_t_hasImage, w_t_act, .int i_t_spot_21, .int i_t_end, .int i_t_isWrong_22, w_t_open, .int i_t_readMany, .int i_t_readSpan, .int i_t_readSum, .int i_t_readOdds, .ref a_t_readBank, .ref a_t_readMill, .ref a_t_readLevel, w_t_levels, w_t_boardsNow, w_t_ways, w_t_nexts, w_t_hourNow, w_t_staying, w_t_leftCard, w_t_leftLine, w_t_isMute, w_t_higher, w_t_over, w_t_dry, w_t_truths, w_t_failHours, w_t_failRow, w_t_keptBoards, w_t_keptHung, w_t_bodies, w_t_ran, w_t_kind, w_t_number, w_t_tellsV])), (a_t_s, .inl (cyI, 1454, .inl f_t_s))]) hD hS hA [3, 4] rfl
    refine va_calli (va_runV (As := [.int 0, .int 9]) (rest := []) ⟨hx, hb, hml, hown, hts⟩ (MX11_figure l D cyI cyZ cyC ro ce cin ad a_t a_t_s  (w_t_thrown) (w_t_image) (w_t_hasImage) (w_t_act) (w_t_open) (.int i_t_readMany) (.int i_t_readSpan) (.int i_t_readSum) (.int i_t_readOdds) (.ref a_t_readBank) (.ref a_t_readMill) (.ref a_t_readLevel) (w_t_levels) (w_t_boardsNow) (w_t_ways) (w_t_nexts) (w_t_hourNow) (w_t_staying) (w_t_leftCard) (w_t_leftLine) (w_t_isMute) (w_t_higher) (w_t_over) (w_t_dry) (w_t_truths) (w_t_failHours) (w_t_failRow) (w_t_keptBoards) (w_t_keptHung) (w_t_bodies) (w_t_ran) (w_t_kind) (w_t_number) (w_t_tellsV) H.size 0 9 i_t_spot_21 i_t_end i_t_isWrong_22 f_t_s QK  hq) (cwV 2 hts gX11_riverHere_X11_figure rfl rfl rfl ⟨rfl, dmX11_figure⟩ ⟨Nat.le_of_ble_eq_true rfl, Nat.le_of_ble_eq_true rfl⟩) ⟨pre_bl, va_recv hK hPc (ci := 10) (q0 := 0) rfl rfl, fun U hU hW => ⟨rfl, pre_of hX hS hK hPc hDc hFc hU hW⟩⟩ rfl rfl hl.1 rfl (lv_room (Nat.le_of_ble_eq_true rfl)) dX11_riverHere_87 ⟨Nat.zero_le _, Nat.zero_le _⟩) hS (fun q _ h => hFc q h) hFc (fun r23 u t H1 locs ht hvm hw hB hz1 hk1 hS => ?_)
    obtain ⟨i_t_spot_24, i_t_isWrong_25⟩ := u
    replace hw : QK r23 i_t_spot_24 i_t_isWrong_25 := hw
    clear hq
    subst eQ
    obtain ⟨hP1, hD1⟩ := hB
    rw [ht] at hP1
    obtain ⟨hP, hD⟩ := va_join (wr := [(a_t_readBank, .inl (cyI, 3, .inl f_t_readBank)), (a_t_readMill, .inl (cyI, 3, .inl f_t_readMill)), (a_t_readLevel, .inl (cyI, 3, .inl f_t_readLevel))]) (w1 := [(a_t, .inr (10, [w_t_thrown, .ref a_t_s, w_t_image, w_t_hasImage, w_t_act, .int i_t_spot_24, .int i_t_end, .int i_t_isWrong_25, w_t_open, .int i_t_readMany, .int i_t_readSpan, .int i_t_readSum, .int i_t_readOdds, .ref a_t_readBank, .ref a_t_readMill, .ref a_t_readLevel, w_t_levels, w_t_boardsNow, w_t_ways, w_t_nexts, w_t_hourNow, w_t_staying, w_t_leftCard, w_t_leftLine, w_t_isMute, w_t_higher, w_t_over, w_t_dry, w_t_truths, w_t_failHours, w_t_failRow, w_t_keptBoards, w_t_keptHung, w_t_bodies, w_t_ran, w_t_kind, w_t_number, w_t_tellsV])), (a_t_s, .inl (cyI, 1454, .inl f_t_s))]) hP hD [3, 4] [0, 1, 2] rfl rfl (by decide) (by decide) hk1 hFc hP1 hD1
    clear hPc hDc hFc hk1 hz1 hP1 hD1 ht hvm
    generalize H1 = H at hP hS ⊢
    replace hP : va_P D vwCl [(a_t_readBank, .inl (cyI, 3, .inl f_t_readBank)), (a_t_readMill, .inl (cyI, 3, .inl f_t_readMill)), (a_t_readLevel, .inl (cyI, 3, .inl f_t_readLevel)), (a_t, .inr (10, [w_t_thrown, .ref a_t_s, w_t_image, w_t_hasImage, w_t_act, .int i_t_spot_24, .int i_t_end, .int i_t_isWrong_25, w_t_open, .int i_t_readMany, .int i_t_readSpan, .int i_t_readSum, .int i_t_readOdds, .ref a_t_readBank, .ref a_t_readMill, .ref a_t_readLevel, w_t_levels, w_t_boardsNow, w_t_ways, w_t_nexts, w_t_hourNow, w_t_staying, w_t_leftCard, w_t_leftLine, w_t_isMute, w_t_higher, w_t_over, w_t_dry, w_t_truths, w_t_failHours, w_t_failRow, w_t_keptBoards, w_t_keptHung, w_t_bodies, w_t_ran, w_t_kind, w_t_number, w_t_tellsV])), (a_t_s, .inl (cyI, 1454, .inl f_t_s))] H := hP
    replace hD : va_D A [(a_t_readBank, .inl (cyI, 3, .inl f_t_readBank)), (a_t_readMill, .inl (cyI, 3, .inl f_t_readMill)), (a_t_readLevel, .inl (cyI, 3, .inl f_t_readLevel)), (a_t, .inr (10, [w_t_thrown, .ref a_t_s, w_t_image, w_t_hasImage, w_t_act, .int i_t_spot_24, .int i_t_end, .int i_t_isWrong_25, w_t_open, .int i_t_readMany, .int i_t_readSpan, .int i_t_readSum, .int i_t_readOdds, .ref a_t_readBank, .ref a_t_readMill, .ref a_t_readLevel, w_t_levels, w_t_boardsNow, w_t_ways, w_t_nexts, w_t_hourNow, w_t_staying, w_t_leftCard, w_t_leftLine, w_t_isMute, w_t_higher, w_t_over, w_t_dry, w_t_truths, w_t_failHours, w_t_failRow, w_t_keptBoards, w_t_keptHung, w_t_bodies, w_t_ran, w_t_kind, w_t_number, w_t_tellsV])), (a_t_s, .inl (cyI, 1454, .inl f_t_s))] := hD
    refine lv_istore_n (lv' := [(2, .int r23), (0, .ref a_t), (1, .int x1)]) hx hb dX11_riverHere_90 rfl hl (by decide) rfl (fun ls hl => ?_)
    refine lv_aload_n hx hb dX11_riverHere_91 rfl (lv_at hl 1 rfl) ?_
    refine lv_iload_n hx hb dX11_riverHere_92 rfl (lv_at hl 2 rfl) ?_
    refine lv_if_eq (tgt := 100) hx hb dX11_riverHere_93 (by decide) (fun c26 => ?_) (fun c26 => ?_)
    · replace hw := hw.1 c26
      refine lv_aload_n hx hb dX11_riverHere_100 rfl (lv_at hl 1 rfl) ?_
      refine va_get (D := D) (ci := 10) (v := .int i_t_readSpan) (C := RX11) (T := TX11) (N := 38) hx hb hts inX11_riverHere_X11 hown hK hP 3 rfl rfl 10 (by decide) (hts _ (List.mem_of_getElem? (i := 1) rfl)) (fun _ h9 => h9) rfl dX11_riverHere_101 ?_
      have hPj := hP.sub (ws' := [(a_t, .inr (10, [w_t_thrown, .ref a_t_s, w_t_image, w_t_hasImage, w_t_act, .int i_t_spot_24, .int i_t_end, .int i_t_isWrong_25, w_t_open, .int i_t_readMany, .int i_t_readSpan, .int i_t_readSum, .int i_t_readOdds, .ref a_t_readBank, .ref a_t_readMill, .ref a_t_readLevel, w_t_levels, w_t_boardsNow, w_t_ways, w_t_nexts, w_t_hourNow, w_t_staying, w_t_leftCard, w_t_leftLine, w_t_isMute, w_t_higher, w_t_over, w_t_dry, w_t_truths, w_t_failHours, w_t_failRow, w_t_keptBoards, w_t_keptHung, w_t_bodies, w_t_ran, w_t_kind, w_t_number, w_t_tellsV])), (a_t_s, .inl (cyI, 1454, .inl f_t_s)), (a_t_readBank, .inl (cyI, 3, .inl f_t_readBank)), (a_t_readMill, .inl (cyI, 3, .inl f_t_readMill)), (a_t_readLevel, .inl (cyI, 3, .inl f_t_readLevel))]) [3, 4, 0, 1, 2] rfl
      have hDj := hD.sub (ws' := [(a_t, .inr (10, [w_t_thrown, .ref a_t_s, w_t_image, w_t_hasImage, w_t_act, .int i_t_spot_24, .int i_t_end, .int i_t_isWrong_25, w_t_open, .int i_t_readMany, .int i_t_readSpan, .int i_t_readSum, .int i_t_readOdds, .ref a_t_readBank, .ref a_t_readMill, .ref a_t_readLevel, w_t_levels, w_t_boardsNow, w_t_ways, w_t_nexts, w_t_hourNow, w_t_staying, w_t_leftCard, w_t_leftLine, w_t_isMute, w_t_higher, w_t_over, w_t_dry, w_t_truths, w_t_failHours, w_t_failRow, w_t_keptBoards, w_t_keptHung, w_t_bodies, w_t_ran, w_t_kind, w_t_number, w_t_tellsV])), (a_t_s, .inl (cyI, 1454, .inl f_t_s)), (a_t_readBank, .inl (cyI, 3, .inl f_t_readBank)), (a_t_readMill, .inl (cyI, 3, .inl f_t_readMill)), (a_t_readLevel, .inl (cyI, 3, .inl f_t_readLevel))]) [3, 4, 0, 1, 2] (by decide) rfl
      exact B104 x1 r23 i_t_readSpan i_t_spot_24 i_t_isWrong_25 i_t_readMany i_t_readSpan i_t_readSum i_t_readOdds f_t_readBank f_t_readMill f_t_readLevel hw _ _ hPj hDj hS _ (lv_sub hl [1, 2, 0] rfl)
    · replace hw := hw.2 c26
      refine lv_iload_n hx hb dX11_riverHere_96 rfl (lv_at hl 0 rfl) ?_
      refine lv_goto (tgt := 104) hx hb dX11_riverHere_97 (by decide) ?_
      have hPj := hP.sub (ws' := [(a_t, .inr (10, [w_t_thrown, .ref a_t_s, w_t_image, w_t_hasImage, w_t_act, .int i_t_spot_24, .int i_t_end, .int i_t_isWrong_25, w_t_open, .int i_t_readMany, .int i_t_readSpan, .int i_t_readSum, .int i_t_readOdds, .ref a_t_readBank, .ref a_t_readMill, .ref a_t_readLevel, w_t_levels, w_t_boardsNow, w_t_ways, w_t_nexts, w_t_hourNow, w_t_staying, w_t_leftCard, w_t_leftLine, w_t_isMute, w_t_higher, w_t_over, w_t_dry, w_t_truths, w_t_failHours, w_t_failRow, w_t_keptBoards, w_t_keptHung, w_t_bodies, w_t_ran, w_t_kind, w_t_number, w_t_tellsV])), (a_t_s, .inl (cyI, 1454, .inl f_t_s)), (a_t_readBank, .inl (cyI, 3, .inl f_t_readBank)), (a_t_readMill, .inl (cyI, 3, .inl f_t_readMill)), (a_t_readLevel, .inl (cyI, 3, .inl f_t_readLevel))]) [3, 4, 0, 1, 2] rfl
      have hDj := hD.sub (ws' := [(a_t, .inr (10, [w_t_thrown, .ref a_t_s, w_t_image, w_t_hasImage, w_t_act, .int i_t_spot_24, .int i_t_end, .int i_t_isWrong_25, w_t_open, .int i_t_readMany, .int i_t_readSpan, .int i_t_readSum, .int i_t_readOdds, .ref a_t_readBank, .ref a_t_readMill, .ref a_t_readLevel, w_t_levels, w_t_boardsNow, w_t_ways, w_t_nexts, w_t_hourNow, w_t_staying, w_t_leftCard, w_t_leftLine, w_t_isMute, w_t_higher, w_t_over, w_t_dry, w_t_truths, w_t_failHours, w_t_failRow, w_t_keptBoards, w_t_keptHung, w_t_bodies, w_t_ran, w_t_kind, w_t_number, w_t_tellsV])), (a_t_s, .inl (cyI, 1454, .inl f_t_s)), (a_t_readBank, .inl (cyI, 3, .inl f_t_readBank)), (a_t_readMill, .inl (cyI, 3, .inl f_t_readMill)), (a_t_readLevel, .inl (cyI, 3, .inl f_t_readLevel))]) [3, 4, 0, 1, 2] (by decide) rfl
      exact B104 x1 r23 r23 i_t_spot_24 i_t_isWrong_25 i_t_readMany i_t_readSpan i_t_readSum i_t_readOdds f_t_readBank f_t_readMill f_t_readLevel hw _ _ hPj hDj hS _ (lv_sub hl [1, 2, 0] rfl)
  have B80_2 : ∀ (x1 : Int32) (i_t_spot : Int32) (i_t_isWrong : Int32) (i_t_readMany : Int32) (i_t_readSpan : Int32) (i_t_readSum : Int32) (i_t_readOdds : Int32) (f_t_readBank : Nat → Int32) (f_t_readMill : Nat → Int32) (f_t_readLevel : Nat → Int32), WX11_riverHere_80_2 i_t_end f_t_s x1 i_t_spot i_t_isWrong i_t_readMany i_t_readSpan i_t_readSum i_t_readOdds f_t_readBank f_t_readMill f_t_readLevel Q  → ∀ (H : Heap) (locs : List Loc), va_P D vwCl [(a_t, .inr (10, [w_t_thrown, .ref a_t_s, w_t_image, w_t_hasImage, w_t_act, .int i_t_spot, .int i_t_end, .int i_t_isWrong, w_t_open, .int i_t_readMany, .int i_t_readSpan, .int i_t_readSum, .int i_t_readOdds, .ref a_t_readBank, .ref a_t_readMill, .ref a_t_readLevel, w_t_levels, w_t_boardsNow, w_t_ways, w_t_nexts, w_t_hourNow, w_t_staying, w_t_leftCard, w_t_leftLine, w_t_isMute, w_t_higher, w_t_over, w_t_dry, w_t_truths, w_t_failHours, w_t_failRow, w_t_keptBoards, w_t_keptHung, w_t_bodies, w_t_ran, w_t_kind, w_t_number, w_t_tellsV])), (a_t_s, .inl (cyI, 1454, .inl f_t_s)), (a_t_readBank, .inl (cyI, 3, .inl f_t_readBank)), (a_t_readMill, .inl (cyI, 3, .inl f_t_readMill)), (a_t_readLevel, .inl (cyI, 3, .inl f_t_readLevel))] H → va_D A [(a_t, .inr (10, [w_t_thrown, .ref a_t_s, w_t_image, w_t_hasImage, w_t_act, .int i_t_spot, .int i_t_end, .int i_t_isWrong, w_t_open, .int i_t_readMany, .int i_t_readSpan, .int i_t_readSum, .int i_t_readOdds, .ref a_t_readBank, .ref a_t_readMill, .ref a_t_readLevel, w_t_levels, w_t_boardsNow, w_t_ways, w_t_nexts, w_t_hourNow, w_t_staying, w_t_leftCard, w_t_leftLine, w_t_isMute, w_t_higher, w_t_over, w_t_dry, w_t_truths, w_t_failHours, w_t_failRow, w_t_keptBoards, w_t_keptHung, w_t_bodies, w_t_ran, w_t_kind, w_t_number, w_t_tellsV])), (a_t_s, .inl (cyI, 1454, .inl f_t_s)), (a_t_readBank, .inl (cyI, 3, .inl f_t_readBank)), (a_t_readMill, .inl (cyI, 3, .inl f_t_readMill)), (a_t_readLevel, .inl (cyI, 3, .inl f_t_readLevel))] → va_S A s.heap H locs → ∀ (ls : Array Slot), lv_has ls 3 [(0, .ref a_t), (1, .int x1)] → W p l e { frames := 7, cells := 0, slots := 0, locals := 148 } s m ([.ref a_t] : List Value).toArray below meth c H locs 0 0 (MQ below (va_Qv (fun (u : Int32 × Int32 × Int32 × Int32 × Int32 × Int32 × (Nat → Int32) × (Nat → Int32) × (Nat → Int32)) => Q u.1 u.2.1 u.2.2.1 u.2.2.2.1 u.2.2.2.2.1 u.2.2.2.2.2.1 u.2.2.2.2.2.2.1 u.2.2.2.2.2.2.2.1 u.2.2.2.2.2.2.2.2) (fun (u : Int32 × Int32 × Int32 × Int32 × Int32 × Int32 × (Nat → Int32) × (Nat → Int32) × (Nat → Int32)) (t : State) => POST D A (SX11_riverHere cyI cyZ cyC a_t a_t_s a_t_readBank a_t_readMill a_t_readLevel w_t_thrown w_t_image w_t_hasImage w_t_act w_t_open w_t_levels w_t_boardsNow w_t_ways w_t_nexts w_t_hourNow w_t_staying w_t_leftCard w_t_leftLine w_t_isMute w_t_higher w_t_over w_t_dry w_t_truths w_t_failHours w_t_failRow w_t_keptBoards w_t_keptHung w_t_bodies w_t_ran w_t_kind w_t_number w_t_tellsV  u.1 i_t_end u.2.1 u.2.2.1 u.2.2.2.1 u.2.2.2.2.1 u.2.2.2.2.2.1 f_t_s u.2.2.2.2.2.2.1 u.2.2.2.2.2.2.2.1 u.2.2.2.2.2.2.2.2) t) A) ([.ref a_t] : List Value).toArray s 0 0 A) (F0 m 80 ls [.ref (ad.1 7), .ref a_t]) := by
    intro x1 i_t_spot i_t_isWrong i_t_readMany i_t_readSpan i_t_readSum i_t_readOdds f_t_readBank f_t_readMill f_t_readLevel hw H locs hP hD hS ls hl
    unfold WX11_riverHere_80_2 at hw
    obtain ⟨QK, eQ, hq⟩ := genq (P := WX11_spells 7 i_t_spot i_t_end i_t_isWrong f_t_s) hw
    clear hw
    have hPc := hP.sub (ws' := [(a_t, .inr (10, [w_t_thrown, .ref a_t_s, w_t_image, w_t_hasImage, w_t_act, .int i_t_spot, .int i_t_end, .int i_t_isWrong, w_t_open, .int i_t_readMany, .int i_t_readSpan, .int i_t_readSum, .int i_t_readOdds, .ref a_t_readBank, .ref a_t_readMill, .ref a_t_readLevel, w_t_levels, w_t_boardsNow, w_t_ways, w_t_nexts, w_t_hourNow, w_t_staying, w_t_leftCard, w_t_leftLine, w_t_isMute, w_t_higher, w_t_over, w_t_dry, w_t_truths, w_t_failHours, w_t_failRow, w_t_keptBoards, w_t_keptHung, w_t_bodies, w_t_ran, w_t_kind, w_t_number, w_t_tellsV])), (a_t_s, .inl (cyI, 1454, .inl f_t_s))]) [0, 1] rfl
    have hDc := hD.sub (ws' := [(a_t, .inr (10, [w_t_thrown, .ref a_t_s, w_t_image, w_t_hasImage, w_t_act, .int i_t_spot, .int i_t_end, .int i_t_isWrong, w_t_open, .int i_t_readMany, .int i_t_readSpan, .int i_t_readSum, .int i_t_readOdds, .ref a_t_readBank, .ref a_t_readMill, .ref a_t_readLevel, w_t_levels, w_t_boardsNow, w_t_ways, w_t_nexts, w_t_hourNow, w_t_staying, w_t_leftCard, w_t_leftLine, w_t_isMute, w_t_higher, w_t_over, w_t_dry, w_t_truths, w_t_failHours, w_t_failRow, w_t_keptBoards, w_t_keptHung, w_t_bodies, w_t_ran, w_t_kind, w_t_number, w_t_tellsV])), (a_t_s, .inl (cyI, 1454, .inl f_t_s))]) [0, 1] (by decide) rfl
    have hFc := va_free (wc := [(a_t, .inr (10, [w_t_thrown, .ref a_t_s, w_t_image, w_t_hasImage, w_t_act, .int i_t_spot, .int i_t_end, .int i_t_isWrong, w_t_open, .int i_t_readMany, .int i_t_readSpan, .int i_t_readSum, .int i_t_readOdds, .ref a_t_readBank, .ref a_t_readMill, .ref a_t_readLevel, w_t_levels, w_t_boardsNow, w_t_ways, w_t_nexts, w_t_hourNow, w_t_staying, w_t_leftCard, w_t_leftLine, w_t_isMute, w_t_higher, w_t_over, w_t_dry, w_t_truths, w_t_failHours, w_t_failRow, w_t_keptBoards, w_t_keptHung, w_t_bodies, w_t_ran, w_t_kind, w_t_number, w_t_tellsV])), (a_t_s, .inl (cyI, 1454, .inl f_t_s))]) hD hS hA [0, 1] rfl
    refine va_callv (va_runV (As := [.ref (ad.1 7)]) (rest := []) ⟨hx, hb, hml, hown, hts⟩ (MX11_spells l D cyI cyZ cyC ro ce cin ad a_t a_t_s  (w_t_thrown) (w_t_image) (w_t_hasImage) (w_t_act) (w_t_open) (.int i_t_readMany) (.int i_t_readSpan) (.int i_t_readSum) (.int i_t_readOdds) (.ref a_t_readBank) (.ref a_t_readMill) (.ref a_t_readLevel) (w_t_levels) (w_t_boardsNow) (w_t_ways) (w_t_nexts) (w_t_hourNow) (w_t_staying) (w_t_leftCard) (w_t_leftLine) (w_t_isMute) (w_t_higher) (w_t_over) (w_t_dry) (w_t_truths) (w_t_failHours) (w_t_failRow) (w_t_keptBoards) (w_t_keptHung) (w_t_bodies) (w_t_ran) (w_t_kind) (w_t_number) (w_t_tellsV) H.size 7 i_t_spot i_t_end i_t_isWrong f_t_s QK (by decide) hq) (cwV 1 hts gX11_riverHere_X11_spells rfl rfl rfl ⟨rfl, dmX11_spells⟩ ⟨Nat.le_of_ble_eq_true rfl, Nat.le_of_ble_eq_true rfl⟩) ⟨pre_bl, va_recv hK hPc (ci := 10) (q0 := 0) rfl rfl, fun U hU hW => ⟨rfl, pre_of hX hS hK hPc hDc hFc hU hW⟩⟩ rfl rfl hl.1 rfl (lv_room (Nat.le_of_ble_eq_true rfl)) dX11_riverHere_80 ⟨Nat.zero_le _, Nat.zero_le _⟩) hS (fun q _ h => hFc q h) hFc (fun u t H1 locs ht hvm hw hB hz1 hk1 hS => ?_)
    obtain ⟨i_t_spot_28, i_t_isWrong_29⟩ := u
    replace hw : QK i_t_spot_28 i_t_isWrong_29 := hw
    clear hq
    subst eQ
    obtain ⟨hP1, hD1⟩ := hB
    rw [ht] at hP1
    obtain ⟨hP, hD⟩ := va_join (wr := [(a_t_readBank, .inl (cyI, 3, .inl f_t_readBank)), (a_t_readMill, .inl (cyI, 3, .inl f_t_readMill)), (a_t_readLevel, .inl (cyI, 3, .inl f_t_readLevel))]) (w1 := [(a_t, .inr (10, [w_t_thrown, .ref a_t_s, w_t_image, w_t_hasImage, w_t_act, .int i_t_spot_28, .int i_t_end, .int i_t_isWrong_29, w_t_open, .int i_t_readMany, .int i_t_readSpan, .int i_t_readSum, .int i_t_readOdds, .ref a_t_readBank, .ref a_t_readMill, .ref a_t_readLevel, w_t_levels, w_t_boardsNow, w_t_ways, w_t_nexts, w_t_hourNow, w_t_staying, w_t_leftCard, w_t_leftLine, w_t_isMute, w_t_higher, w_t_over, w_t_dry, w_t_truths, w_t_failHours, w_t_failRow, w_t_keptBoards, w_t_keptHung, w_t_bodies, w_t_ran, w_t_kind, w_t_number, w_t_tellsV])), (a_t_s, .inl (cyI, 1454, .inl f_t_s))]) hP hD [0, 1] [2, 3, 4] rfl rfl (by decide) (by decide) hk1 hFc hP1 hD1
    clear hPc hDc hFc hk1 hz1 hP1 hD1 ht hvm
    generalize H1 = H at hP hS ⊢
    replace hP : va_P D vwCl [(a_t_readBank, .inl (cyI, 3, .inl f_t_readBank)), (a_t_readMill, .inl (cyI, 3, .inl f_t_readMill)), (a_t_readLevel, .inl (cyI, 3, .inl f_t_readLevel)), (a_t, .inr (10, [w_t_thrown, .ref a_t_s, w_t_image, w_t_hasImage, w_t_act, .int i_t_spot_28, .int i_t_end, .int i_t_isWrong_29, w_t_open, .int i_t_readMany, .int i_t_readSpan, .int i_t_readSum, .int i_t_readOdds, .ref a_t_readBank, .ref a_t_readMill, .ref a_t_readLevel, w_t_levels, w_t_boardsNow, w_t_ways, w_t_nexts, w_t_hourNow, w_t_staying, w_t_leftCard, w_t_leftLine, w_t_isMute, w_t_higher, w_t_over, w_t_dry, w_t_truths, w_t_failHours, w_t_failRow, w_t_keptBoards, w_t_keptHung, w_t_bodies, w_t_ran, w_t_kind, w_t_number, w_t_tellsV])), (a_t_s, .inl (cyI, 1454, .inl f_t_s))] H := hP
    replace hD : va_D A [(a_t_readBank, .inl (cyI, 3, .inl f_t_readBank)), (a_t_readMill, .inl (cyI, 3, .inl f_t_readMill)), (a_t_readLevel, .inl (cyI, 3, .inl f_t_readLevel)), (a_t, .inr (10, [w_t_thrown, .ref a_t_s, w_t_image, w_t_hasImage, w_t_act, .int i_t_spot_28, .int i_t_end, .int i_t_isWrong_29, w_t_open, .int i_t_readMany, .int i_t_readSpan, .int i_t_readSum, .int i_t_readOdds, .ref a_t_readBank, .ref a_t_readMill, .ref a_t_readLevel, w_t_levels, w_t_boardsNow, w_t_ways, w_t_nexts, w_t_hourNow, w_t_staying, w_t_leftCard, w_t_leftLine, w_t_isMute, w_t_higher, w_t_over, w_t_dry, w_t_truths, w_t_failHours, w_t_failRow, w_t_keptBoards, w_t_keptHung, w_t_bodies, w_t_ran, w_t_kind, w_t_number, w_t_tellsV])), (a_t_s, .inl (cyI, 1454, .inl f_t_s))] := hD
    refine lv_aload_n hx hb dX11_riverHere_83 rfl (lv_at hl 0 rfl) ?_
    refine lv_iconst (v := 0) hx hb dX11_riverHere_84 (by decide) ?_
    refine lv_bipush (v := 9) hx hb dX11_riverHere_85 (by decide) ?_
    obtain ⟨QK, eQ, hq⟩ := genq (P := WX11_figure 0 9 i_t_spot_28 i_t_end i_t_isWrong_29 f_t_s) hw
    clear hw
    have hPc := hP.sub (ws' := [(a_t, .inr (10, [w_t_thrown, .ref a_t_s, w_t_image, w_t_hasImage, w_t_act, .int i_t_spot_28, .int i_t_end, .int i_t_isWrong_29, w_t_open, .int i_t_readMany, .int i_t_readSpan, .int i_t_readSum, .int i_t_readOdds, .ref a_t_readBank, .ref a_t_readMill, .ref a_t_readLevel, w_t_levels, w_t_boardsNow, w_t_ways, w_t_nexts, w_t_hourNow, w_t_staying, w_t_leftCard, w_t_leftLine, w_t_isMute, w_t_higher, w_t_over, w_t_dry, w_t_truths, w_t_failHours, w_t_failRow, w_t_keptBoards, w_t_keptHung, w_t_bodies, w_t_ran, w_t_kind, w_t_number, w_t_tellsV])), (a_t_s, .inl (cyI, 1454, .inl f_t_s))]) [3, 4] rfl
    have hDc := hD.sub (ws' := [(a_t, .inr (10, [w_t_thrown, .ref a_t_s, w_t_image, w_t_hasImage, w_t_act, .int i_t_spot_28, .int i_t_end, .int i_t_isWrong_29, w_t_open, .int i_t_readMany, .int i_t_readSpan, .int i_t_readSum, .int i_t_readOdds, .ref a_t_readBank, .ref a_t_readMill, .ref a_t_readLevel, w_t_levels, w_t_boardsNow, w_t_ways, w_t_nexts, w_t_hourNow, w_t_staying, w_t_leftCard, w_t_leftLine, w_t_isMute, w_t_higher, w_t_over, w_t_dry, w_t_truths, w_t_failHours, w_t_failRow, w_t_keptBoards, w_t_keptHung, w_t_bodies, w_t_ran, w_t_kind, w_t_number, w_t_tellsV])), (a_t_s, .inl (cyI, 1454, .inl f_t_s))]) [3, 4] (by decide) rfl
    have hFc := va_free (wc := [(a_t, .inr (10, [w_t_thrown, .ref a_t_s, w_t_image, w_t_hasImage, w_t_act, .int i_t_spot_28, .int i_t_end, .int i_t_isWrong_29, w_t_open, .int i_t_readMany, .int i_t_readSpan, .int i_t_readSum, .int i_t_readOdds, .ref a_t_readBank, .ref a_t_readMill, .ref a_t_readLevel, w_t_levels, w_t_boardsNow, w_t_ways, w_t_nexts, w_t_hourNow, w_t_staying, w_t_leftCard, w_t_leftLine, w_t_isMute, w_t_higher, w_t_over, w_t_dry, w_t_truths, w_t_failHours, w_t_failRow, w_t_keptBoards, w_t_keptHung, w_t_bodies, w_t_ran, w_t_kind, w_t_number, w_t_tellsV])), (a_t_s, .inl (cyI, 1454, .inl f_t_s))]) hD hS hA [3, 4] rfl
    refine va_calli (va_runV (As := [.int 0, .int 9]) (rest := []) ⟨hx, hb, hml, hown, hts⟩ (MX11_figure l D cyI cyZ cyC ro ce cin ad a_t a_t_s  (w_t_thrown) (w_t_image) (w_t_hasImage) (w_t_act) (w_t_open) (.int i_t_readMany) (.int i_t_readSpan) (.int i_t_readSum) (.int i_t_readOdds) (.ref a_t_readBank) (.ref a_t_readMill) (.ref a_t_readLevel) (w_t_levels) (w_t_boardsNow) (w_t_ways) (w_t_nexts) (w_t_hourNow) (w_t_staying) (w_t_leftCard) (w_t_leftLine) (w_t_isMute) (w_t_higher) (w_t_over) (w_t_dry) (w_t_truths) (w_t_failHours) (w_t_failRow) (w_t_keptBoards) (w_t_keptHung) (w_t_bodies) (w_t_ran) (w_t_kind) (w_t_number) (w_t_tellsV) H.size 0 9 i_t_spot_28 i_t_end i_t_isWrong_29 f_t_s QK  hq) (cwV 2 hts gX11_riverHere_X11_figure rfl rfl rfl ⟨rfl, dmX11_figure⟩ ⟨Nat.le_of_ble_eq_true rfl, Nat.le_of_ble_eq_true rfl⟩) ⟨pre_bl, va_recv hK hPc (ci := 10) (q0 := 0) rfl rfl, fun U hU hW => ⟨rfl, pre_of hX hS hK hPc hDc hFc hU hW⟩⟩ rfl rfl hl.1 rfl (lv_room (Nat.le_of_ble_eq_true rfl)) dX11_riverHere_87 ⟨Nat.zero_le _, Nat.zero_le _⟩) hS (fun q _ h => hFc q h) hFc (fun r30 u t H1 locs ht hvm hw hB hz1 hk1 hS => ?_)
    obtain ⟨i_t_spot_31, i_t_isWrong_32⟩ := u
    replace hw : QK r30 i_t_spot_31 i_t_isWrong_32 := hw
    clear hq
    subst eQ
    obtain ⟨hP1, hD1⟩ := hB
    rw [ht] at hP1
    obtain ⟨hP, hD⟩ := va_join (wr := [(a_t_readBank, .inl (cyI, 3, .inl f_t_readBank)), (a_t_readMill, .inl (cyI, 3, .inl f_t_readMill)), (a_t_readLevel, .inl (cyI, 3, .inl f_t_readLevel))]) (w1 := [(a_t, .inr (10, [w_t_thrown, .ref a_t_s, w_t_image, w_t_hasImage, w_t_act, .int i_t_spot_31, .int i_t_end, .int i_t_isWrong_32, w_t_open, .int i_t_readMany, .int i_t_readSpan, .int i_t_readSum, .int i_t_readOdds, .ref a_t_readBank, .ref a_t_readMill, .ref a_t_readLevel, w_t_levels, w_t_boardsNow, w_t_ways, w_t_nexts, w_t_hourNow, w_t_staying, w_t_leftCard, w_t_leftLine, w_t_isMute, w_t_higher, w_t_over, w_t_dry, w_t_truths, w_t_failHours, w_t_failRow, w_t_keptBoards, w_t_keptHung, w_t_bodies, w_t_ran, w_t_kind, w_t_number, w_t_tellsV])), (a_t_s, .inl (cyI, 1454, .inl f_t_s))]) hP hD [3, 4] [0, 1, 2] rfl rfl (by decide) (by decide) hk1 hFc hP1 hD1
    clear hPc hDc hFc hk1 hz1 hP1 hD1 ht hvm
    generalize H1 = H at hP hS ⊢
    replace hP : va_P D vwCl [(a_t_readBank, .inl (cyI, 3, .inl f_t_readBank)), (a_t_readMill, .inl (cyI, 3, .inl f_t_readMill)), (a_t_readLevel, .inl (cyI, 3, .inl f_t_readLevel)), (a_t, .inr (10, [w_t_thrown, .ref a_t_s, w_t_image, w_t_hasImage, w_t_act, .int i_t_spot_31, .int i_t_end, .int i_t_isWrong_32, w_t_open, .int i_t_readMany, .int i_t_readSpan, .int i_t_readSum, .int i_t_readOdds, .ref a_t_readBank, .ref a_t_readMill, .ref a_t_readLevel, w_t_levels, w_t_boardsNow, w_t_ways, w_t_nexts, w_t_hourNow, w_t_staying, w_t_leftCard, w_t_leftLine, w_t_isMute, w_t_higher, w_t_over, w_t_dry, w_t_truths, w_t_failHours, w_t_failRow, w_t_keptBoards, w_t_keptHung, w_t_bodies, w_t_ran, w_t_kind, w_t_number, w_t_tellsV])), (a_t_s, .inl (cyI, 1454, .inl f_t_s))] H := hP
    replace hD : va_D A [(a_t_readBank, .inl (cyI, 3, .inl f_t_readBank)), (a_t_readMill, .inl (cyI, 3, .inl f_t_readMill)), (a_t_readLevel, .inl (cyI, 3, .inl f_t_readLevel)), (a_t, .inr (10, [w_t_thrown, .ref a_t_s, w_t_image, w_t_hasImage, w_t_act, .int i_t_spot_31, .int i_t_end, .int i_t_isWrong_32, w_t_open, .int i_t_readMany, .int i_t_readSpan, .int i_t_readSum, .int i_t_readOdds, .ref a_t_readBank, .ref a_t_readMill, .ref a_t_readLevel, w_t_levels, w_t_boardsNow, w_t_ways, w_t_nexts, w_t_hourNow, w_t_staying, w_t_leftCard, w_t_leftLine, w_t_isMute, w_t_higher, w_t_over, w_t_dry, w_t_truths, w_t_failHours, w_t_failRow, w_t_keptBoards, w_t_keptHung, w_t_bodies, w_t_ran, w_t_kind, w_t_number, w_t_tellsV])), (a_t_s, .inl (cyI, 1454, .inl f_t_s))] := hD
    refine lv_istore_n (lv' := [(2, .int r30), (0, .ref a_t), (1, .int x1)]) hx hb dX11_riverHere_90 rfl hl (by decide) rfl (fun ls hl => ?_)
    refine lv_aload_n hx hb dX11_riverHere_91 rfl (lv_at hl 1 rfl) ?_
    refine lv_iload_n hx hb dX11_riverHere_92 rfl (lv_at hl 2 rfl) ?_
    refine lv_if_eq (tgt := 100) hx hb dX11_riverHere_93 (by decide) (fun c33 => ?_) (fun c33 => ?_)
    · replace hw := hw.1 c33
      refine lv_aload_n hx hb dX11_riverHere_100 rfl (lv_at hl 1 rfl) ?_
      refine va_get (D := D) (ci := 10) (v := .int i_t_readSpan) (C := RX11) (T := TX11) (N := 38) hx hb hts inX11_riverHere_X11 hown hK hP 3 rfl rfl 10 (by decide) (hts _ (List.mem_of_getElem? (i := 1) rfl)) (fun _ h9 => h9) rfl dX11_riverHere_101 ?_
      have hPj := hP.sub (ws' := [(a_t, .inr (10, [w_t_thrown, .ref a_t_s, w_t_image, w_t_hasImage, w_t_act, .int i_t_spot_31, .int i_t_end, .int i_t_isWrong_32, w_t_open, .int i_t_readMany, .int i_t_readSpan, .int i_t_readSum, .int i_t_readOdds, .ref a_t_readBank, .ref a_t_readMill, .ref a_t_readLevel, w_t_levels, w_t_boardsNow, w_t_ways, w_t_nexts, w_t_hourNow, w_t_staying, w_t_leftCard, w_t_leftLine, w_t_isMute, w_t_higher, w_t_over, w_t_dry, w_t_truths, w_t_failHours, w_t_failRow, w_t_keptBoards, w_t_keptHung, w_t_bodies, w_t_ran, w_t_kind, w_t_number, w_t_tellsV])), (a_t_s, .inl (cyI, 1454, .inl f_t_s)), (a_t_readBank, .inl (cyI, 3, .inl f_t_readBank)), (a_t_readMill, .inl (cyI, 3, .inl f_t_readMill)), (a_t_readLevel, .inl (cyI, 3, .inl f_t_readLevel))]) [3, 4, 0, 1, 2] rfl
      have hDj := hD.sub (ws' := [(a_t, .inr (10, [w_t_thrown, .ref a_t_s, w_t_image, w_t_hasImage, w_t_act, .int i_t_spot_31, .int i_t_end, .int i_t_isWrong_32, w_t_open, .int i_t_readMany, .int i_t_readSpan, .int i_t_readSum, .int i_t_readOdds, .ref a_t_readBank, .ref a_t_readMill, .ref a_t_readLevel, w_t_levels, w_t_boardsNow, w_t_ways, w_t_nexts, w_t_hourNow, w_t_staying, w_t_leftCard, w_t_leftLine, w_t_isMute, w_t_higher, w_t_over, w_t_dry, w_t_truths, w_t_failHours, w_t_failRow, w_t_keptBoards, w_t_keptHung, w_t_bodies, w_t_ran, w_t_kind, w_t_number, w_t_tellsV])), (a_t_s, .inl (cyI, 1454, .inl f_t_s)), (a_t_readBank, .inl (cyI, 3, .inl f_t_readBank)), (a_t_readMill, .inl (cyI, 3, .inl f_t_readMill)), (a_t_readLevel, .inl (cyI, 3, .inl f_t_readLevel))]) [3, 4, 0, 1, 2] (by decide) rfl
      exact B104 x1 r30 i_t_readSpan i_t_spot_31 i_t_isWrong_32 i_t_readMany i_t_readSpan i_t_readSum i_t_readOdds f_t_readBank f_t_readMill f_t_readLevel hw _ _ hPj hDj hS _ (lv_sub hl [1, 2, 0] rfl)
    · replace hw := hw.2 c33
      refine lv_iload_n hx hb dX11_riverHere_96 rfl (lv_at hl 0 rfl) ?_
      refine lv_goto (tgt := 104) hx hb dX11_riverHere_97 (by decide) ?_
      have hPj := hP.sub (ws' := [(a_t, .inr (10, [w_t_thrown, .ref a_t_s, w_t_image, w_t_hasImage, w_t_act, .int i_t_spot_31, .int i_t_end, .int i_t_isWrong_32, w_t_open, .int i_t_readMany, .int i_t_readSpan, .int i_t_readSum, .int i_t_readOdds, .ref a_t_readBank, .ref a_t_readMill, .ref a_t_readLevel, w_t_levels, w_t_boardsNow, w_t_ways, w_t_nexts, w_t_hourNow, w_t_staying, w_t_leftCard, w_t_leftLine, w_t_isMute, w_t_higher, w_t_over, w_t_dry, w_t_truths, w_t_failHours, w_t_failRow, w_t_keptBoards, w_t_keptHung, w_t_bodies, w_t_ran, w_t_kind, w_t_number, w_t_tellsV])), (a_t_s, .inl (cyI, 1454, .inl f_t_s)), (a_t_readBank, .inl (cyI, 3, .inl f_t_readBank)), (a_t_readMill, .inl (cyI, 3, .inl f_t_readMill)), (a_t_readLevel, .inl (cyI, 3, .inl f_t_readLevel))]) [3, 4, 0, 1, 2] rfl
      have hDj := hD.sub (ws' := [(a_t, .inr (10, [w_t_thrown, .ref a_t_s, w_t_image, w_t_hasImage, w_t_act, .int i_t_spot_31, .int i_t_end, .int i_t_isWrong_32, w_t_open, .int i_t_readMany, .int i_t_readSpan, .int i_t_readSum, .int i_t_readOdds, .ref a_t_readBank, .ref a_t_readMill, .ref a_t_readLevel, w_t_levels, w_t_boardsNow, w_t_ways, w_t_nexts, w_t_hourNow, w_t_staying, w_t_leftCard, w_t_leftLine, w_t_isMute, w_t_higher, w_t_over, w_t_dry, w_t_truths, w_t_failHours, w_t_failRow, w_t_keptBoards, w_t_keptHung, w_t_bodies, w_t_ran, w_t_kind, w_t_number, w_t_tellsV])), (a_t_s, .inl (cyI, 1454, .inl f_t_s)), (a_t_readBank, .inl (cyI, 3, .inl f_t_readBank)), (a_t_readMill, .inl (cyI, 3, .inl f_t_readMill)), (a_t_readLevel, .inl (cyI, 3, .inl f_t_readLevel))]) [3, 4, 0, 1, 2] (by decide) rfl
      exact B104 x1 r30 r30 i_t_spot_31 i_t_isWrong_32 i_t_readMany i_t_readSpan i_t_readSum i_t_readOdds f_t_readBank f_t_readMill f_t_readLevel hw _ _ hPj hDj hS _ (lv_sub hl [1, 2, 0] rfl)
  have B67 : ∀ (s0 : Int32) (i_t_spot : Int32) (i_t_isWrong : Int32) (i_t_readMany : Int32) (i_t_readSpan : Int32) (i_t_readSum : Int32) (i_t_readOdds : Int32) (f_t_readBank : Nat → Int32) (f_t_readMill : Nat → Int32) (f_t_readLevel : Nat → Int32), WX11_riverHere_67 i_t_end f_t_s s0 i_t_spot i_t_isWrong i_t_readMany i_t_readSpan i_t_readSum i_t_readOdds f_t_readBank f_t_readMill f_t_readLevel Q  → ∀ (H : Heap) (locs : List Loc), va_P D vwCl [(a_t, .inr (10, [w_t_thrown, .ref a_t_s, w_t_image, w_t_hasImage, w_t_act, .int i_t_spot, .int i_t_end, .int i_t_isWrong, w_t_open, .int i_t_readMany, .int i_t_readSpan, .int i_t_readSum, .int i_t_readOdds, .ref a_t_readBank, .ref a_t_readMill, .ref a_t_readLevel, w_t_levels, w_t_boardsNow, w_t_ways, w_t_nexts, w_t_hourNow, w_t_staying, w_t_leftCard, w_t_leftLine, w_t_isMute, w_t_higher, w_t_over, w_t_dry, w_t_truths, w_t_failHours, w_t_failRow, w_t_keptBoards, w_t_keptHung, w_t_bodies, w_t_ran, w_t_kind, w_t_number, w_t_tellsV])), (a_t_s, .inl (cyI, 1454, .inl f_t_s)), (a_t_readBank, .inl (cyI, 3, .inl f_t_readBank)), (a_t_readMill, .inl (cyI, 3, .inl f_t_readMill)), (a_t_readLevel, .inl (cyI, 3, .inl f_t_readLevel))] H → va_D A [(a_t, .inr (10, [w_t_thrown, .ref a_t_s, w_t_image, w_t_hasImage, w_t_act, .int i_t_spot, .int i_t_end, .int i_t_isWrong, w_t_open, .int i_t_readMany, .int i_t_readSpan, .int i_t_readSum, .int i_t_readOdds, .ref a_t_readBank, .ref a_t_readMill, .ref a_t_readLevel, w_t_levels, w_t_boardsNow, w_t_ways, w_t_nexts, w_t_hourNow, w_t_staying, w_t_leftCard, w_t_leftLine, w_t_isMute, w_t_higher, w_t_over, w_t_dry, w_t_truths, w_t_failHours, w_t_failRow, w_t_keptBoards, w_t_keptHung, w_t_bodies, w_t_ran, w_t_kind, w_t_number, w_t_tellsV])), (a_t_s, .inl (cyI, 1454, .inl f_t_s)), (a_t_readBank, .inl (cyI, 3, .inl f_t_readBank)), (a_t_readMill, .inl (cyI, 3, .inl f_t_readMill)), (a_t_readLevel, .inl (cyI, 3, .inl f_t_readLevel))] → va_S A s.heap H locs → ∀ (ls : Array Slot), lv_has ls 3 [(0, .ref a_t)] → W p l e { frames := 7, cells := 0, slots := 0, locals := 148 } s m ([.ref a_t] : List Value).toArray below meth c H locs 0 0 (MQ below (va_Qv (fun (u : Int32 × Int32 × Int32 × Int32 × Int32 × Int32 × (Nat → Int32) × (Nat → Int32) × (Nat → Int32)) => Q u.1 u.2.1 u.2.2.1 u.2.2.2.1 u.2.2.2.2.1 u.2.2.2.2.2.1 u.2.2.2.2.2.2.1 u.2.2.2.2.2.2.2.1 u.2.2.2.2.2.2.2.2) (fun (u : Int32 × Int32 × Int32 × Int32 × Int32 × Int32 × (Nat → Int32) × (Nat → Int32) × (Nat → Int32)) (t : State) => POST D A (SX11_riverHere cyI cyZ cyC a_t a_t_s a_t_readBank a_t_readMill a_t_readLevel w_t_thrown w_t_image w_t_hasImage w_t_act w_t_open w_t_levels w_t_boardsNow w_t_ways w_t_nexts w_t_hourNow w_t_staying w_t_leftCard w_t_leftLine w_t_isMute w_t_higher w_t_over w_t_dry w_t_truths w_t_failHours w_t_failRow w_t_keptBoards w_t_keptHung w_t_bodies w_t_ran w_t_kind w_t_number w_t_tellsV  u.1 i_t_end u.2.1 u.2.2.1 u.2.2.2.1 u.2.2.2.2.1 u.2.2.2.2.2.1 f_t_s u.2.2.2.2.2.2.1 u.2.2.2.2.2.2.2.1 u.2.2.2.2.2.2.2.2) t) A) ([.ref a_t] : List Value).toArray s 0 0 A) (F0 m 67 ls [.int s0]) := by
    intro s0 i_t_spot i_t_isWrong i_t_readMany i_t_readSpan i_t_readSum i_t_readOdds f_t_readBank f_t_readMill f_t_readLevel hw H locs hP hD hS ls hl
    unfold WX11_riverHere_67 at hw
    refine lv_istore_n (lv' := [(1, .int s0), (0, .ref a_t)]) hx hb dX11_riverHere_67 rfl hl (by decide) rfl (fun ls hl => ?_)
    refine lv_aload_n hx hb dX11_riverHere_68 rfl (lv_at hl 1 rfl) ?_
    refine lv_iload_n hx hb dX11_riverHere_69 rfl (lv_at hl 0 rfl) ?_
    refine lv_if_eq (tgt := 78) hx hb dX11_riverHere_70 (by decide) (fun c20 => ?_) (fun c20 => ?_)
    · replace hw := hw.1 c20
      refine va_ldcS (tx := "um ") (q := ad.1 3) hx hb hown (hX.env.2.1 ("SluiceCardsModel", 113, "um ", 3) (List.mem_of_getElem? (i := 9) rfl)) dX11_riverHere_78 ?_
      exact B80 s0 i_t_spot i_t_isWrong i_t_readMany i_t_readSpan i_t_readSum i_t_readOdds f_t_readBank f_t_readMill f_t_readLevel hw _ _ hP hD hS _ (lv_sub hl [1, 0] rfl)
    · replace hw := hw.2 c20
      refine va_ldcS (tx := "pan ") (q := ad.1 7) hx hb hown (hX.env.2.1 ("SluiceCardsModel", 111, "pan ", 7) (List.mem_of_getElem? (i := 8) rfl)) dX11_riverHere_73 ?_
      refine lv_goto (tgt := 80) hx hb dX11_riverHere_75 (by decide) ?_
      exact B80_2 s0 i_t_spot i_t_isWrong i_t_readMany i_t_readSpan i_t_readSum i_t_readOdds f_t_readBank f_t_readMill f_t_readLevel hw _ _ hP hD hS _ (lv_sub hl [1, 0] rfl)
  unfold WX11_riverHere at hw
  refine lv_aload_n hx hb dX11_riverHere_0 rfl (lv_at hl 0 rfl) ?_
  obtain ⟨QK, eQ, hq⟩ := genq (P := WX11_here i_t_spot i_t_end f_t_s) hw
  clear hw
  have hPc := hP.sub (ws' := [(a_t, .inr (10, [w_t_thrown, .ref a_t_s, w_t_image, w_t_hasImage, w_t_act, .int i_t_spot, .int i_t_end, .int i_t_isWrong, w_t_open, .int i_t_readMany, .int i_t_readSpan, .int i_t_readSum, .int i_t_readOdds, .ref a_t_readBank, .ref a_t_readMill, .ref a_t_readLevel, w_t_levels, w_t_boardsNow, w_t_ways, w_t_nexts, w_t_hourNow, w_t_staying, w_t_leftCard, w_t_leftLine, w_t_isMute, w_t_higher, w_t_over, w_t_dry, w_t_truths, w_t_failHours, w_t_failRow, w_t_keptBoards, w_t_keptHung, w_t_bodies, w_t_ran, w_t_kind, w_t_number, w_t_tellsV])), (a_t_s, .inl (cyI, 1454, .inl f_t_s))]) [0, 1] rfl
  have hDc := hD.sub (ws' := [(a_t, .inr (10, [w_t_thrown, .ref a_t_s, w_t_image, w_t_hasImage, w_t_act, .int i_t_spot, .int i_t_end, .int i_t_isWrong, w_t_open, .int i_t_readMany, .int i_t_readSpan, .int i_t_readSum, .int i_t_readOdds, .ref a_t_readBank, .ref a_t_readMill, .ref a_t_readLevel, w_t_levels, w_t_boardsNow, w_t_ways, w_t_nexts, w_t_hourNow, w_t_staying, w_t_leftCard, w_t_leftLine, w_t_isMute, w_t_higher, w_t_over, w_t_dry, w_t_truths, w_t_failHours, w_t_failRow, w_t_keptBoards, w_t_keptHung, w_t_bodies, w_t_ran, w_t_kind, w_t_number, w_t_tellsV])), (a_t_s, .inl (cyI, 1454, .inl f_t_s))]) [0, 1] (by decide) rfl
  have hFc := va_free (wc := [(a_t, .inr (10, [w_t_thrown, .ref a_t_s, w_t_image, w_t_hasImage, w_t_act, .int i_t_spot, .int i_t_end, .int i_t_isWrong, w_t_open, .int i_t_readMany, .int i_t_readSpan, .int i_t_readSum, .int i_t_readOdds, .ref a_t_readBank, .ref a_t_readMill, .ref a_t_readLevel, w_t_levels, w_t_boardsNow, w_t_ways, w_t_nexts, w_t_hourNow, w_t_staying, w_t_leftCard, w_t_leftLine, w_t_isMute, w_t_higher, w_t_over, w_t_dry, w_t_truths, w_t_failHours, w_t_failRow, w_t_keptBoards, w_t_keptHung, w_t_bodies, w_t_ran, w_t_kind, w_t_number, w_t_tellsV])), (a_t_s, .inl (cyI, 1454, .inl f_t_s))]) hD hS hA [0, 1] rfl
  refine va_calli (va_runV (As := []) (rest := []) ⟨hx, hb, hml, hown, hts⟩ (MX11_here l D cyI cyZ cyC ro ce cin ad a_t a_t_s  (w_t_thrown) (w_t_image) (w_t_hasImage) (w_t_act) (.int i_t_isWrong) (w_t_open) (.int i_t_readMany) (.int i_t_readSpan) (.int i_t_readSum) (.int i_t_readOdds) (.ref a_t_readBank) (.ref a_t_readMill) (.ref a_t_readLevel) (w_t_levels) (w_t_boardsNow) (w_t_ways) (w_t_nexts) (w_t_hourNow) (w_t_staying) (w_t_leftCard) (w_t_leftLine) (w_t_isMute) (w_t_higher) (w_t_over) (w_t_dry) (w_t_truths) (w_t_failHours) (w_t_failRow) (w_t_keptBoards) (w_t_keptHung) (w_t_bodies) (w_t_ran) (w_t_kind) (w_t_number) (w_t_tellsV) H.size i_t_spot i_t_end f_t_s QK  hq) (cwV 0 hts gX11_riverHere_X11_here rfl rfl rfl ⟨rfl, dmX11_here⟩ ⟨Nat.le_of_ble_eq_true rfl, Nat.le_of_ble_eq_true rfl⟩) ⟨pre_bl, va_recv hK hPc (ci := 10) (q0 := 0) rfl rfl, fun U hU hW => ⟨rfl, pre_of hX hS hK hPc hDc hFc hU hW⟩⟩ rfl rfl hl.1 rfl (lv_room (Nat.le_of_ble_eq_true rfl)) dX11_riverHere_1 ⟨Nat.zero_le _, Nat.zero_le _⟩) hS (fun q _ h => hFc q h) hFc (fun r1 u t H1 locs ht hvm hw hB hz1 hk1 hS => ?_)
  replace hw : QK r1 := hw
  clear hq
  subst eQ
  obtain ⟨hP1, hD1⟩ := hB
  rw [ht] at hP1
  obtain ⟨hP, hD⟩ := va_join (wr := [(a_t_readBank, .inl (cyI, 3, .inl f_t_readBank)), (a_t_readMill, .inl (cyI, 3, .inl f_t_readMill)), (a_t_readLevel, .inl (cyI, 3, .inl f_t_readLevel))]) (w1 := [(a_t, .inr (10, [w_t_thrown, .ref a_t_s, w_t_image, w_t_hasImage, w_t_act, .int i_t_spot, .int i_t_end, .int i_t_isWrong, w_t_open, .int i_t_readMany, .int i_t_readSpan, .int i_t_readSum, .int i_t_readOdds, .ref a_t_readBank, .ref a_t_readMill, .ref a_t_readLevel, w_t_levels, w_t_boardsNow, w_t_ways, w_t_nexts, w_t_hourNow, w_t_staying, w_t_leftCard, w_t_leftLine, w_t_isMute, w_t_higher, w_t_over, w_t_dry, w_t_truths, w_t_failHours, w_t_failRow, w_t_keptBoards, w_t_keptHung, w_t_bodies, w_t_ran, w_t_kind, w_t_number, w_t_tellsV])), (a_t_s, .inl (cyI, 1454, .inl f_t_s))]) hP hD [0, 1] [2, 3, 4] rfl rfl (by decide) (by decide) hk1 hFc hP1 hD1
  clear hPc hDc hFc hk1 hz1 hP1 hD1 ht hvm
  generalize H1 = H at hP hS ⊢
  replace hP : va_P D vwCl [(a_t_readBank, .inl (cyI, 3, .inl f_t_readBank)), (a_t_readMill, .inl (cyI, 3, .inl f_t_readMill)), (a_t_readLevel, .inl (cyI, 3, .inl f_t_readLevel)), (a_t, .inr (10, [w_t_thrown, .ref a_t_s, w_t_image, w_t_hasImage, w_t_act, .int i_t_spot, .int i_t_end, .int i_t_isWrong, w_t_open, .int i_t_readMany, .int i_t_readSpan, .int i_t_readSum, .int i_t_readOdds, .ref a_t_readBank, .ref a_t_readMill, .ref a_t_readLevel, w_t_levels, w_t_boardsNow, w_t_ways, w_t_nexts, w_t_hourNow, w_t_staying, w_t_leftCard, w_t_leftLine, w_t_isMute, w_t_higher, w_t_over, w_t_dry, w_t_truths, w_t_failHours, w_t_failRow, w_t_keptBoards, w_t_keptHung, w_t_bodies, w_t_ran, w_t_kind, w_t_number, w_t_tellsV])), (a_t_s, .inl (cyI, 1454, .inl f_t_s))] H := hP
  replace hD : va_D A [(a_t_readBank, .inl (cyI, 3, .inl f_t_readBank)), (a_t_readMill, .inl (cyI, 3, .inl f_t_readMill)), (a_t_readLevel, .inl (cyI, 3, .inl f_t_readLevel)), (a_t, .inr (10, [w_t_thrown, .ref a_t_s, w_t_image, w_t_hasImage, w_t_act, .int i_t_spot, .int i_t_end, .int i_t_isWrong, w_t_open, .int i_t_readMany, .int i_t_readSpan, .int i_t_readSum, .int i_t_readOdds, .ref a_t_readBank, .ref a_t_readMill, .ref a_t_readLevel, w_t_levels, w_t_boardsNow, w_t_ways, w_t_nexts, w_t_hourNow, w_t_staying, w_t_leftCard, w_t_leftLine, w_t_isMute, w_t_higher, w_t_over, w_t_dry, w_t_truths, w_t_failHours, w_t_failRow, w_t_keptBoards, w_t_keptHung, w_t_bodies, w_t_ran, w_t_kind, w_t_number, w_t_tellsV])), (a_t_s, .inl (cyI, 1454, .inl f_t_s))] := hD
  by_cases c2 : r1 = 111
  · replace hw := hw.1 c2
    refine lv_tableIn (off := 122) (tgt := 126) hx hb dX11_riverHere_4 (by rw [c2]; decide) (by rw [c2]; decide) (by rw [c2]; rfl) (by decide) ?_
    refine lv_aload_n hx hb dX11_riverHere_126 rfl (lv_at hl 0 rfl) ?_
    refine va_ldcS (tx := "odds ") (q := ad.1 8) hx hb hown (hX.env.2.1 ("SluiceCardsModel", 121, "odds ", 8) (List.mem_of_getElem? (i := 10) rfl)) dX11_riverHere_127 ?_
    obtain ⟨QK, eQ, hq⟩ := genq (P := WX11_spells 8 i_t_spot i_t_end i_t_isWrong f_t_s) hw
    clear hw
    have hPc := hP.sub (ws' := [(a_t, .inr (10, [w_t_thrown, .ref a_t_s, w_t_image, w_t_hasImage, w_t_act, .int i_t_spot, .int i_t_end, .int i_t_isWrong, w_t_open, .int i_t_readMany, .int i_t_readSpan, .int i_t_readSum, .int i_t_readOdds, .ref a_t_readBank, .ref a_t_readMill, .ref a_t_readLevel, w_t_levels, w_t_boardsNow, w_t_ways, w_t_nexts, w_t_hourNow, w_t_staying, w_t_leftCard, w_t_leftLine, w_t_isMute, w_t_higher, w_t_over, w_t_dry, w_t_truths, w_t_failHours, w_t_failRow, w_t_keptBoards, w_t_keptHung, w_t_bodies, w_t_ran, w_t_kind, w_t_number, w_t_tellsV])), (a_t_s, .inl (cyI, 1454, .inl f_t_s))]) [3, 4] rfl
    have hDc := hD.sub (ws' := [(a_t, .inr (10, [w_t_thrown, .ref a_t_s, w_t_image, w_t_hasImage, w_t_act, .int i_t_spot, .int i_t_end, .int i_t_isWrong, w_t_open, .int i_t_readMany, .int i_t_readSpan, .int i_t_readSum, .int i_t_readOdds, .ref a_t_readBank, .ref a_t_readMill, .ref a_t_readLevel, w_t_levels, w_t_boardsNow, w_t_ways, w_t_nexts, w_t_hourNow, w_t_staying, w_t_leftCard, w_t_leftLine, w_t_isMute, w_t_higher, w_t_over, w_t_dry, w_t_truths, w_t_failHours, w_t_failRow, w_t_keptBoards, w_t_keptHung, w_t_bodies, w_t_ran, w_t_kind, w_t_number, w_t_tellsV])), (a_t_s, .inl (cyI, 1454, .inl f_t_s))]) [3, 4] (by decide) rfl
    have hFc := va_free (wc := [(a_t, .inr (10, [w_t_thrown, .ref a_t_s, w_t_image, w_t_hasImage, w_t_act, .int i_t_spot, .int i_t_end, .int i_t_isWrong, w_t_open, .int i_t_readMany, .int i_t_readSpan, .int i_t_readSum, .int i_t_readOdds, .ref a_t_readBank, .ref a_t_readMill, .ref a_t_readLevel, w_t_levels, w_t_boardsNow, w_t_ways, w_t_nexts, w_t_hourNow, w_t_staying, w_t_leftCard, w_t_leftLine, w_t_isMute, w_t_higher, w_t_over, w_t_dry, w_t_truths, w_t_failHours, w_t_failRow, w_t_keptBoards, w_t_keptHung, w_t_bodies, w_t_ran, w_t_kind, w_t_number, w_t_tellsV])), (a_t_s, .inl (cyI, 1454, .inl f_t_s))]) hD hS hA [3, 4] rfl
    refine va_callv (va_runV (As := [.ref (ad.1 8)]) (rest := []) ⟨hx, hb, hml, hown, hts⟩ (MX11_spells l D cyI cyZ cyC ro ce cin ad a_t a_t_s  (w_t_thrown) (w_t_image) (w_t_hasImage) (w_t_act) (w_t_open) (.int i_t_readMany) (.int i_t_readSpan) (.int i_t_readSum) (.int i_t_readOdds) (.ref a_t_readBank) (.ref a_t_readMill) (.ref a_t_readLevel) (w_t_levels) (w_t_boardsNow) (w_t_ways) (w_t_nexts) (w_t_hourNow) (w_t_staying) (w_t_leftCard) (w_t_leftLine) (w_t_isMute) (w_t_higher) (w_t_over) (w_t_dry) (w_t_truths) (w_t_failHours) (w_t_failRow) (w_t_keptBoards) (w_t_keptHung) (w_t_bodies) (w_t_ran) (w_t_kind) (w_t_number) (w_t_tellsV) H.size 8 i_t_spot i_t_end i_t_isWrong f_t_s QK (by decide) hq) (cwV 1 hts gX11_riverHere_X11_spells rfl rfl rfl ⟨rfl, dmX11_spells⟩ ⟨Nat.le_of_ble_eq_true rfl, Nat.le_of_ble_eq_true rfl⟩) ⟨pre_bl, va_recv hK hPc (ci := 10) (q0 := 0) rfl rfl, fun U hU hW => ⟨rfl, pre_of hX hS hK hPc hDc hFc hU hW⟩⟩ rfl rfl hl.1 rfl (lv_room (Nat.le_of_ble_eq_true rfl)) dX11_riverHere_129 ⟨Nat.zero_le _, Nat.zero_le _⟩) hS (fun q _ h => hFc q h) hFc (fun u t H1 locs ht hvm hw hB hz1 hk1 hS => ?_)
    obtain ⟨i_t_spot_3, i_t_isWrong_4⟩ := u
    replace hw : QK i_t_spot_3 i_t_isWrong_4 := hw
    clear hq
    subst eQ
    obtain ⟨hP1, hD1⟩ := hB
    rw [ht] at hP1
    obtain ⟨hP, hD⟩ := va_join (wr := [(a_t_readBank, .inl (cyI, 3, .inl f_t_readBank)), (a_t_readMill, .inl (cyI, 3, .inl f_t_readMill)), (a_t_readLevel, .inl (cyI, 3, .inl f_t_readLevel))]) (w1 := [(a_t, .inr (10, [w_t_thrown, .ref a_t_s, w_t_image, w_t_hasImage, w_t_act, .int i_t_spot_3, .int i_t_end, .int i_t_isWrong_4, w_t_open, .int i_t_readMany, .int i_t_readSpan, .int i_t_readSum, .int i_t_readOdds, .ref a_t_readBank, .ref a_t_readMill, .ref a_t_readLevel, w_t_levels, w_t_boardsNow, w_t_ways, w_t_nexts, w_t_hourNow, w_t_staying, w_t_leftCard, w_t_leftLine, w_t_isMute, w_t_higher, w_t_over, w_t_dry, w_t_truths, w_t_failHours, w_t_failRow, w_t_keptBoards, w_t_keptHung, w_t_bodies, w_t_ran, w_t_kind, w_t_number, w_t_tellsV])), (a_t_s, .inl (cyI, 1454, .inl f_t_s))]) hP hD [3, 4] [0, 1, 2] rfl rfl (by decide) (by decide) hk1 hFc hP1 hD1
    clear hPc hDc hFc hk1 hz1 hP1 hD1 ht hvm
    generalize H1 = H at hP hS ⊢
    replace hP : va_P D vwCl [(a_t_readBank, .inl (cyI, 3, .inl f_t_readBank)), (a_t_readMill, .inl (cyI, 3, .inl f_t_readMill)), (a_t_readLevel, .inl (cyI, 3, .inl f_t_readLevel)), (a_t, .inr (10, [w_t_thrown, .ref a_t_s, w_t_image, w_t_hasImage, w_t_act, .int i_t_spot_3, .int i_t_end, .int i_t_isWrong_4, w_t_open, .int i_t_readMany, .int i_t_readSpan, .int i_t_readSum, .int i_t_readOdds, .ref a_t_readBank, .ref a_t_readMill, .ref a_t_readLevel, w_t_levels, w_t_boardsNow, w_t_ways, w_t_nexts, w_t_hourNow, w_t_staying, w_t_leftCard, w_t_leftLine, w_t_isMute, w_t_higher, w_t_over, w_t_dry, w_t_truths, w_t_failHours, w_t_failRow, w_t_keptBoards, w_t_keptHung, w_t_bodies, w_t_ran, w_t_kind, w_t_number, w_t_tellsV])), (a_t_s, .inl (cyI, 1454, .inl f_t_s))] H := hP
    replace hD : va_D A [(a_t_readBank, .inl (cyI, 3, .inl f_t_readBank)), (a_t_readMill, .inl (cyI, 3, .inl f_t_readMill)), (a_t_readLevel, .inl (cyI, 3, .inl f_t_readLevel)), (a_t, .inr (10, [w_t_thrown, .ref a_t_s, w_t_image, w_t_hasImage, w_t_act, .int i_t_spot_3, .int i_t_end, .int i_t_isWrong_4, w_t_open, .int i_t_readMany, .int i_t_readSpan, .int i_t_readSum, .int i_t_readOdds, .ref a_t_readBank, .ref a_t_readMill, .ref a_t_readLevel, w_t_levels, w_t_boardsNow, w_t_ways, w_t_nexts, w_t_hourNow, w_t_staying, w_t_leftCard, w_t_leftLine, w_t_isMute, w_t_higher, w_t_over, w_t_dry, w_t_truths, w_t_failHours, w_t_failRow, w_t_keptBoards, w_t_keptHung, w_t_bodies, w_t_ran, w_t_kind, w_t_number, w_t_tellsV])), (a_t_s, .inl (cyI, 1454, .inl f_t_s))] := hD
    refine lv_aload_n hx hb dX11_riverHere_132 rfl (lv_at hl 0 rfl) ?_
    refine lv_aload_n hx hb dX11_riverHere_133 rfl (lv_at hl 0 rfl) ?_
    refine lv_iconst (v := 0) hx hb dX11_riverHere_134 (by decide) ?_
    refine lv_bipush (v := 9) hx hb dX11_riverHere_135 (by decide) ?_
    obtain ⟨QK, eQ, hq⟩ := genq (P := WX11_figure 0 9 i_t_spot_3 i_t_end i_t_isWrong_4 f_t_s) hw
    clear hw
    have hPc := hP.sub (ws' := [(a_t, .inr (10, [w_t_thrown, .ref a_t_s, w_t_image, w_t_hasImage, w_t_act, .int i_t_spot_3, .int i_t_end, .int i_t_isWrong_4, w_t_open, .int i_t_readMany, .int i_t_readSpan, .int i_t_readSum, .int i_t_readOdds, .ref a_t_readBank, .ref a_t_readMill, .ref a_t_readLevel, w_t_levels, w_t_boardsNow, w_t_ways, w_t_nexts, w_t_hourNow, w_t_staying, w_t_leftCard, w_t_leftLine, w_t_isMute, w_t_higher, w_t_over, w_t_dry, w_t_truths, w_t_failHours, w_t_failRow, w_t_keptBoards, w_t_keptHung, w_t_bodies, w_t_ran, w_t_kind, w_t_number, w_t_tellsV])), (a_t_s, .inl (cyI, 1454, .inl f_t_s))]) [3, 4] rfl
    have hDc := hD.sub (ws' := [(a_t, .inr (10, [w_t_thrown, .ref a_t_s, w_t_image, w_t_hasImage, w_t_act, .int i_t_spot_3, .int i_t_end, .int i_t_isWrong_4, w_t_open, .int i_t_readMany, .int i_t_readSpan, .int i_t_readSum, .int i_t_readOdds, .ref a_t_readBank, .ref a_t_readMill, .ref a_t_readLevel, w_t_levels, w_t_boardsNow, w_t_ways, w_t_nexts, w_t_hourNow, w_t_staying, w_t_leftCard, w_t_leftLine, w_t_isMute, w_t_higher, w_t_over, w_t_dry, w_t_truths, w_t_failHours, w_t_failRow, w_t_keptBoards, w_t_keptHung, w_t_bodies, w_t_ran, w_t_kind, w_t_number, w_t_tellsV])), (a_t_s, .inl (cyI, 1454, .inl f_t_s))]) [3, 4] (by decide) rfl
    have hFc := va_free (wc := [(a_t, .inr (10, [w_t_thrown, .ref a_t_s, w_t_image, w_t_hasImage, w_t_act, .int i_t_spot_3, .int i_t_end, .int i_t_isWrong_4, w_t_open, .int i_t_readMany, .int i_t_readSpan, .int i_t_readSum, .int i_t_readOdds, .ref a_t_readBank, .ref a_t_readMill, .ref a_t_readLevel, w_t_levels, w_t_boardsNow, w_t_ways, w_t_nexts, w_t_hourNow, w_t_staying, w_t_leftCard, w_t_leftLine, w_t_isMute, w_t_higher, w_t_over, w_t_dry, w_t_truths, w_t_failHours, w_t_failRow, w_t_keptBoards, w_t_keptHung, w_t_bodies, w_t_ran, w_t_kind, w_t_number, w_t_tellsV])), (a_t_s, .inl (cyI, 1454, .inl f_t_s))]) hD hS hA [3, 4] rfl
    refine va_calli (va_runV (As := [.int 0, .int 9]) (rest := [.ref a_t]) ⟨hx, hb, hml, hown, hts⟩ (MX11_figure l D cyI cyZ cyC ro ce cin ad a_t a_t_s  (w_t_thrown) (w_t_image) (w_t_hasImage) (w_t_act) (w_t_open) (.int i_t_readMany) (.int i_t_readSpan) (.int i_t_readSum) (.int i_t_readOdds) (.ref a_t_readBank) (.ref a_t_readMill) (.ref a_t_readLevel) (w_t_levels) (w_t_boardsNow) (w_t_ways) (w_t_nexts) (w_t_hourNow) (w_t_staying) (w_t_leftCard) (w_t_leftLine) (w_t_isMute) (w_t_higher) (w_t_over) (w_t_dry) (w_t_truths) (w_t_failHours) (w_t_failRow) (w_t_keptBoards) (w_t_keptHung) (w_t_bodies) (w_t_ran) (w_t_kind) (w_t_number) (w_t_tellsV) H.size 0 9 i_t_spot_3 i_t_end i_t_isWrong_4 f_t_s QK  hq) (cwV 2 hts gX11_riverHere_X11_figure rfl rfl rfl ⟨rfl, dmX11_figure⟩ ⟨Nat.le_of_ble_eq_true rfl, Nat.le_of_ble_eq_true rfl⟩) ⟨pre_bl, va_recv hK hPc (ci := 10) (q0 := 0) rfl rfl, fun U hU hW => ⟨rfl, pre_of hX hS hK hPc hDc hFc hU hW⟩⟩ rfl rfl hl.1 rfl (lv_room (Nat.le_of_ble_eq_true rfl)) dX11_riverHere_137 ⟨Nat.zero_le _, Nat.zero_le _⟩) hS (fun q _ h => hFc q h) hFc (fun r5 u t H1 locs ht hvm hw hB hz1 hk1 hS => ?_)
    obtain ⟨i_t_spot_6, i_t_isWrong_7⟩ := u
    replace hw : QK r5 i_t_spot_6 i_t_isWrong_7 := hw
    clear hq
    subst eQ
    obtain ⟨hP1, hD1⟩ := hB
    rw [ht] at hP1
    obtain ⟨hP, hD⟩ := va_join (wr := [(a_t_readBank, .inl (cyI, 3, .inl f_t_readBank)), (a_t_readMill, .inl (cyI, 3, .inl f_t_readMill)), (a_t_readLevel, .inl (cyI, 3, .inl f_t_readLevel))]) (w1 := [(a_t, .inr (10, [w_t_thrown, .ref a_t_s, w_t_image, w_t_hasImage, w_t_act, .int i_t_spot_6, .int i_t_end, .int i_t_isWrong_7, w_t_open, .int i_t_readMany, .int i_t_readSpan, .int i_t_readSum, .int i_t_readOdds, .ref a_t_readBank, .ref a_t_readMill, .ref a_t_readLevel, w_t_levels, w_t_boardsNow, w_t_ways, w_t_nexts, w_t_hourNow, w_t_staying, w_t_leftCard, w_t_leftLine, w_t_isMute, w_t_higher, w_t_over, w_t_dry, w_t_truths, w_t_failHours, w_t_failRow, w_t_keptBoards, w_t_keptHung, w_t_bodies, w_t_ran, w_t_kind, w_t_number, w_t_tellsV])), (a_t_s, .inl (cyI, 1454, .inl f_t_s))]) hP hD [3, 4] [0, 1, 2] rfl rfl (by decide) (by decide) hk1 hFc hP1 hD1
    clear hPc hDc hFc hk1 hz1 hP1 hD1 ht hvm
    generalize H1 = H at hP hS ⊢
    replace hP : va_P D vwCl [(a_t_readBank, .inl (cyI, 3, .inl f_t_readBank)), (a_t_readMill, .inl (cyI, 3, .inl f_t_readMill)), (a_t_readLevel, .inl (cyI, 3, .inl f_t_readLevel)), (a_t, .inr (10, [w_t_thrown, .ref a_t_s, w_t_image, w_t_hasImage, w_t_act, .int i_t_spot_6, .int i_t_end, .int i_t_isWrong_7, w_t_open, .int i_t_readMany, .int i_t_readSpan, .int i_t_readSum, .int i_t_readOdds, .ref a_t_readBank, .ref a_t_readMill, .ref a_t_readLevel, w_t_levels, w_t_boardsNow, w_t_ways, w_t_nexts, w_t_hourNow, w_t_staying, w_t_leftCard, w_t_leftLine, w_t_isMute, w_t_higher, w_t_over, w_t_dry, w_t_truths, w_t_failHours, w_t_failRow, w_t_keptBoards, w_t_keptHung, w_t_bodies, w_t_ran, w_t_kind, w_t_number, w_t_tellsV])), (a_t_s, .inl (cyI, 1454, .inl f_t_s))] H := hP
    replace hD : va_D A [(a_t_readBank, .inl (cyI, 3, .inl f_t_readBank)), (a_t_readMill, .inl (cyI, 3, .inl f_t_readMill)), (a_t_readLevel, .inl (cyI, 3, .inl f_t_readLevel)), (a_t, .inr (10, [w_t_thrown, .ref a_t_s, w_t_image, w_t_hasImage, w_t_act, .int i_t_spot_6, .int i_t_end, .int i_t_isWrong_7, w_t_open, .int i_t_readMany, .int i_t_readSpan, .int i_t_readSum, .int i_t_readOdds, .ref a_t_readBank, .ref a_t_readMill, .ref a_t_readLevel, w_t_levels, w_t_boardsNow, w_t_ways, w_t_nexts, w_t_hourNow, w_t_staying, w_t_leftCard, w_t_leftLine, w_t_isMute, w_t_higher, w_t_over, w_t_dry, w_t_truths, w_t_failHours, w_t_failRow, w_t_keptBoards, w_t_keptHung, w_t_bodies, w_t_ran, w_t_kind, w_t_number, w_t_tellsV])), (a_t_s, .inl (cyI, 1454, .inl f_t_s))] := hD
    refine va_put (D := D) (ci := 10) (v := .int r5) (ty := .int) (C := RX11) (T := TX11) (N := 38) hx hb hts inX11_riverHere_X11 tyX11 tyX11_ok nmX11 hown hK hP hD hS 3 rfl rfl 12 (by decide) (hts _ (List.mem_of_getElem? (i := 3) rfl)) (fun _ h9 => h9) rfl (tyX11_ok 12 (by decide)) rfl rfl (Nat.le_of_ble_eq_true rfl) dX11_riverHere_140 (fun H locs hP hD hS => ?_)
    replace hP : va_P D vwCl [(a_t_readBank, .inl (cyI, 3, .inl f_t_readBank)), (a_t_readMill, .inl (cyI, 3, .inl f_t_readMill)), (a_t_readLevel, .inl (cyI, 3, .inl f_t_readLevel)), (a_t, .inr (10, [w_t_thrown, .ref a_t_s, w_t_image, w_t_hasImage, w_t_act, .int i_t_spot_6, .int i_t_end, .int i_t_isWrong_7, w_t_open, .int i_t_readMany, .int i_t_readSpan, .int i_t_readSum, .int r5, .ref a_t_readBank, .ref a_t_readMill, .ref a_t_readLevel, w_t_levels, w_t_boardsNow, w_t_ways, w_t_nexts, w_t_hourNow, w_t_staying, w_t_leftCard, w_t_leftLine, w_t_isMute, w_t_higher, w_t_over, w_t_dry, w_t_truths, w_t_failHours, w_t_failRow, w_t_keptBoards, w_t_keptHung, w_t_bodies, w_t_ran, w_t_kind, w_t_number, w_t_tellsV])), (a_t_s, .inl (cyI, 1454, .inl f_t_s))] H := hP
    replace hD : va_D A [(a_t_readBank, .inl (cyI, 3, .inl f_t_readBank)), (a_t_readMill, .inl (cyI, 3, .inl f_t_readMill)), (a_t_readLevel, .inl (cyI, 3, .inl f_t_readLevel)), (a_t, .inr (10, [w_t_thrown, .ref a_t_s, w_t_image, w_t_hasImage, w_t_act, .int i_t_spot_6, .int i_t_end, .int i_t_isWrong_7, w_t_open, .int i_t_readMany, .int i_t_readSpan, .int i_t_readSum, .int r5, .ref a_t_readBank, .ref a_t_readMill, .ref a_t_readLevel, w_t_levels, w_t_boardsNow, w_t_ways, w_t_nexts, w_t_hourNow, w_t_staying, w_t_leftCard, w_t_leftLine, w_t_isMute, w_t_higher, w_t_over, w_t_dry, w_t_truths, w_t_failHours, w_t_failRow, w_t_keptBoards, w_t_keptHung, w_t_bodies, w_t_ran, w_t_kind, w_t_number, w_t_tellsV])), (a_t_s, .inl (cyI, 1454, .inl f_t_s))] := hD
    refine lv_goto (tgt := 151) hx hb dX11_riverHere_143 (by decide) ?_
    have hPj := hP.sub (ws' := [(a_t, .inr (10, [w_t_thrown, .ref a_t_s, w_t_image, w_t_hasImage, w_t_act, .int i_t_spot_6, .int i_t_end, .int i_t_isWrong_7, w_t_open, .int i_t_readMany, .int i_t_readSpan, .int i_t_readSum, .int r5, .ref a_t_readBank, .ref a_t_readMill, .ref a_t_readLevel, w_t_levels, w_t_boardsNow, w_t_ways, w_t_nexts, w_t_hourNow, w_t_staying, w_t_leftCard, w_t_leftLine, w_t_isMute, w_t_higher, w_t_over, w_t_dry, w_t_truths, w_t_failHours, w_t_failRow, w_t_keptBoards, w_t_keptHung, w_t_bodies, w_t_ran, w_t_kind, w_t_number, w_t_tellsV])), (a_t_s, .inl (cyI, 1454, .inl f_t_s)), (a_t_readBank, .inl (cyI, 3, .inl f_t_readBank)), (a_t_readMill, .inl (cyI, 3, .inl f_t_readMill)), (a_t_readLevel, .inl (cyI, 3, .inl f_t_readLevel))]) [3, 4, 0, 1, 2] rfl
    have hDj := hD.sub (ws' := [(a_t, .inr (10, [w_t_thrown, .ref a_t_s, w_t_image, w_t_hasImage, w_t_act, .int i_t_spot_6, .int i_t_end, .int i_t_isWrong_7, w_t_open, .int i_t_readMany, .int i_t_readSpan, .int i_t_readSum, .int r5, .ref a_t_readBank, .ref a_t_readMill, .ref a_t_readLevel, w_t_levels, w_t_boardsNow, w_t_ways, w_t_nexts, w_t_hourNow, w_t_staying, w_t_leftCard, w_t_leftLine, w_t_isMute, w_t_higher, w_t_over, w_t_dry, w_t_truths, w_t_failHours, w_t_failRow, w_t_keptBoards, w_t_keptHung, w_t_bodies, w_t_ran, w_t_kind, w_t_number, w_t_tellsV])), (a_t_s, .inl (cyI, 1454, .inl f_t_s)), (a_t_readBank, .inl (cyI, 3, .inl f_t_readBank)), (a_t_readMill, .inl (cyI, 3, .inl f_t_readMill)), (a_t_readLevel, .inl (cyI, 3, .inl f_t_readLevel))]) [3, 4, 0, 1, 2] (by decide) rfl
    exact W.vret hx hb hr (fun t ht hW => ⟨⟨(i_t_spot_6, i_t_isWrong_7, i_t_readMany, i_t_readSpan, i_t_readSum, r5, f_t_readBank, f_t_readMill, f_t_readLevel), rfl, hw, post_mk ht hPj hDj⟩, hS.F ht⟩) hS.2.2 dX11_riverHere_151 hlocks
  replace hw := hw.2 c2
  by_cases c8 : r1 = 114
  · replace hw := hw.1 c8
    refine lv_tableIn (off := 36) (tgt := 40) hx hb dX11_riverHere_4 (by rw [c8]; decide) (by rw [c8]; decide) (by rw [c8]; rfl) (by decide) ?_
    refine lv_aload_n hx hb dX11_riverHere_40 rfl (lv_at hl 0 rfl) ?_
    obtain ⟨QK, eQ, hq⟩ := genq (P := WX11_reachHere i_t_spot i_t_end i_t_isWrong i_t_readMany f_t_s f_t_readBank f_t_readMill f_t_readLevel) hw
    clear hw
    have hPc := hP.sub (ws' := [(a_t, .inr (10, [w_t_thrown, .ref a_t_s, w_t_image, w_t_hasImage, w_t_act, .int i_t_spot, .int i_t_end, .int i_t_isWrong, w_t_open, .int i_t_readMany, .int i_t_readSpan, .int i_t_readSum, .int i_t_readOdds, .ref a_t_readBank, .ref a_t_readMill, .ref a_t_readLevel, w_t_levels, w_t_boardsNow, w_t_ways, w_t_nexts, w_t_hourNow, w_t_staying, w_t_leftCard, w_t_leftLine, w_t_isMute, w_t_higher, w_t_over, w_t_dry, w_t_truths, w_t_failHours, w_t_failRow, w_t_keptBoards, w_t_keptHung, w_t_bodies, w_t_ran, w_t_kind, w_t_number, w_t_tellsV])), (a_t_s, .inl (cyI, 1454, .inl f_t_s)), (a_t_readBank, .inl (cyI, 3, .inl f_t_readBank)), (a_t_readMill, .inl (cyI, 3, .inl f_t_readMill)), (a_t_readLevel, .inl (cyI, 3, .inl f_t_readLevel))]) [3, 4, 0, 1, 2] rfl
    have hDc := hD.sub (ws' := [(a_t, .inr (10, [w_t_thrown, .ref a_t_s, w_t_image, w_t_hasImage, w_t_act, .int i_t_spot, .int i_t_end, .int i_t_isWrong, w_t_open, .int i_t_readMany, .int i_t_readSpan, .int i_t_readSum, .int i_t_readOdds, .ref a_t_readBank, .ref a_t_readMill, .ref a_t_readLevel, w_t_levels, w_t_boardsNow, w_t_ways, w_t_nexts, w_t_hourNow, w_t_staying, w_t_leftCard, w_t_leftLine, w_t_isMute, w_t_higher, w_t_over, w_t_dry, w_t_truths, w_t_failHours, w_t_failRow, w_t_keptBoards, w_t_keptHung, w_t_bodies, w_t_ran, w_t_kind, w_t_number, w_t_tellsV])), (a_t_s, .inl (cyI, 1454, .inl f_t_s)), (a_t_readBank, .inl (cyI, 3, .inl f_t_readBank)), (a_t_readMill, .inl (cyI, 3, .inl f_t_readMill)), (a_t_readLevel, .inl (cyI, 3, .inl f_t_readLevel))]) [3, 4, 0, 1, 2] (by decide) rfl
    have hFc := va_free (wc := [(a_t, .inr (10, [w_t_thrown, .ref a_t_s, w_t_image, w_t_hasImage, w_t_act, .int i_t_spot, .int i_t_end, .int i_t_isWrong, w_t_open, .int i_t_readMany, .int i_t_readSpan, .int i_t_readSum, .int i_t_readOdds, .ref a_t_readBank, .ref a_t_readMill, .ref a_t_readLevel, w_t_levels, w_t_boardsNow, w_t_ways, w_t_nexts, w_t_hourNow, w_t_staying, w_t_leftCard, w_t_leftLine, w_t_isMute, w_t_higher, w_t_over, w_t_dry, w_t_truths, w_t_failHours, w_t_failRow, w_t_keptBoards, w_t_keptHung, w_t_bodies, w_t_ran, w_t_kind, w_t_number, w_t_tellsV])), (a_t_s, .inl (cyI, 1454, .inl f_t_s)), (a_t_readBank, .inl (cyI, 3, .inl f_t_readBank)), (a_t_readMill, .inl (cyI, 3, .inl f_t_readMill)), (a_t_readLevel, .inl (cyI, 3, .inl f_t_readLevel))]) hD hS hA [3, 4, 0, 1, 2] rfl
    refine va_callv (va_runV (As := []) (rest := []) ⟨hx, hb, hml, hown, hts⟩ (MX11_reachHere l D cyI cyZ cyC ro ce cin ad a_t a_t_s a_t_readBank a_t_readMill a_t_readLevel  (w_t_thrown) (w_t_image) (w_t_hasImage) (w_t_act) (w_t_open) (.int i_t_readSpan) (.int i_t_readSum) (.int i_t_readOdds) (w_t_levels) (w_t_boardsNow) (w_t_ways) (w_t_nexts) (w_t_hourNow) (w_t_staying) (w_t_leftCard) (w_t_leftLine) (w_t_isMute) (w_t_higher) (w_t_over) (w_t_dry) (w_t_truths) (w_t_failHours) (w_t_failRow) (w_t_keptBoards) (w_t_keptHung) (w_t_bodies) (w_t_ran) (w_t_kind) (w_t_number) (w_t_tellsV) H.size i_t_spot i_t_end i_t_isWrong i_t_readMany f_t_s f_t_readBank f_t_readMill f_t_readLevel QK  hq) (cwV 0 hts gX11_riverHere_X11_reachHere rfl rfl rfl ⟨rfl, dmX11_reachHere⟩ ⟨Nat.le_of_ble_eq_true rfl, Nat.le_of_ble_eq_true rfl⟩) ⟨pre_bl, va_recv hK hPc (ci := 10) (q0 := 0) rfl rfl, fun U hU hW => ⟨rfl, pre_of hX hS hK hPc hDc hFc hU hW⟩⟩ rfl rfl hl.1 rfl (lv_room (Nat.le_of_ble_eq_true rfl)) dX11_riverHere_41 ⟨Nat.zero_le _, Nat.zero_le _⟩) hS (fun q _ h => hFc q h) hFc (fun u t H1 locs ht hvm hw hB hz1 hk1 hS => ?_)
    obtain ⟨i_t_spot_9, i_t_isWrong_10, i_t_readMany_11, f_t_readBank_12, f_t_readMill_13, f_t_readLevel_14⟩ := u
    replace hw : QK i_t_spot_9 i_t_isWrong_10 i_t_readMany_11 f_t_readBank_12 f_t_readMill_13 f_t_readLevel_14 := hw
    clear hq
    subst eQ
    obtain ⟨hP1, hD1⟩ := hB
    rw [ht] at hP1
    obtain ⟨hP, hD⟩ := va_join (wr := []) (w1 := [(a_t, .inr (10, [w_t_thrown, .ref a_t_s, w_t_image, w_t_hasImage, w_t_act, .int i_t_spot_9, .int i_t_end, .int i_t_isWrong_10, w_t_open, .int i_t_readMany_11, .int i_t_readSpan, .int i_t_readSum, .int i_t_readOdds, .ref a_t_readBank, .ref a_t_readMill, .ref a_t_readLevel, w_t_levels, w_t_boardsNow, w_t_ways, w_t_nexts, w_t_hourNow, w_t_staying, w_t_leftCard, w_t_leftLine, w_t_isMute, w_t_higher, w_t_over, w_t_dry, w_t_truths, w_t_failHours, w_t_failRow, w_t_keptBoards, w_t_keptHung, w_t_bodies, w_t_ran, w_t_kind, w_t_number, w_t_tellsV])), (a_t_s, .inl (cyI, 1454, .inl f_t_s)), (a_t_readBank, .inl (cyI, 3, .inl f_t_readBank_12)), (a_t_readMill, .inl (cyI, 3, .inl f_t_readMill_13)), (a_t_readLevel, .inl (cyI, 3, .inl f_t_readLevel_14))]) hP hD [3, 4, 0, 1, 2] [] rfl rfl (by decide) (by decide) hk1 hFc hP1 hD1
    clear hPc hDc hFc hk1 hz1 hP1 hD1 ht hvm
    generalize H1 = H at hP hS ⊢
    replace hP : va_P D vwCl [(a_t, .inr (10, [w_t_thrown, .ref a_t_s, w_t_image, w_t_hasImage, w_t_act, .int i_t_spot_9, .int i_t_end, .int i_t_isWrong_10, w_t_open, .int i_t_readMany_11, .int i_t_readSpan, .int i_t_readSum, .int i_t_readOdds, .ref a_t_readBank, .ref a_t_readMill, .ref a_t_readLevel, w_t_levels, w_t_boardsNow, w_t_ways, w_t_nexts, w_t_hourNow, w_t_staying, w_t_leftCard, w_t_leftLine, w_t_isMute, w_t_higher, w_t_over, w_t_dry, w_t_truths, w_t_failHours, w_t_failRow, w_t_keptBoards, w_t_keptHung, w_t_bodies, w_t_ran, w_t_kind, w_t_number, w_t_tellsV])), (a_t_s, .inl (cyI, 1454, .inl f_t_s)), (a_t_readBank, .inl (cyI, 3, .inl f_t_readBank_12)), (a_t_readMill, .inl (cyI, 3, .inl f_t_readMill_13)), (a_t_readLevel, .inl (cyI, 3, .inl f_t_readLevel_14))] H := hP
    replace hD : va_D A [(a_t, .inr (10, [w_t_thrown, .ref a_t_s, w_t_image, w_t_hasImage, w_t_act, .int i_t_spot_9, .int i_t_end, .int i_t_isWrong_10, w_t_open, .int i_t_readMany_11, .int i_t_readSpan, .int i_t_readSum, .int i_t_readOdds, .ref a_t_readBank, .ref a_t_readMill, .ref a_t_readLevel, w_t_levels, w_t_boardsNow, w_t_ways, w_t_nexts, w_t_hourNow, w_t_staying, w_t_leftCard, w_t_leftLine, w_t_isMute, w_t_higher, w_t_over, w_t_dry, w_t_truths, w_t_failHours, w_t_failRow, w_t_keptBoards, w_t_keptHung, w_t_bodies, w_t_ran, w_t_kind, w_t_number, w_t_tellsV])), (a_t_s, .inl (cyI, 1454, .inl f_t_s)), (a_t_readBank, .inl (cyI, 3, .inl f_t_readBank_12)), (a_t_readMill, .inl (cyI, 3, .inl f_t_readMill_13)), (a_t_readLevel, .inl (cyI, 3, .inl f_t_readLevel_14))] := hD
    refine lv_goto (tgt := 151) hx hb dX11_riverHere_44 (by decide) ?_
    exact W.vret hx hb hr (fun t ht hW => ⟨⟨(i_t_spot_9, i_t_isWrong_10, i_t_readMany_11, i_t_readSpan, i_t_readSum, i_t_readOdds, f_t_readBank_12, f_t_readMill_13, f_t_readLevel_14), rfl, hw, post_mk ht hP hD⟩, hS.F ht⟩) hS.2.2 dX11_riverHere_151 hlocks
  replace hw := hw.2 c8
  by_cases c15 : r1 = 115
  · replace hw := hw.1 c15
    refine lv_tableIn (off := 43) (tgt := 47) hx hb dX11_riverHere_4 (by rw [c15]; decide) (by rw [c15]; decide) (by rw [c15]; rfl) (by decide) ?_
    refine lv_aload_n hx hb dX11_riverHere_47 rfl (lv_at hl 0 rfl) ?_
    refine lv_bipush (v := 115) hx hb dX11_riverHere_48 (by decide) ?_
    obtain ⟨QK, eQ, hq⟩ := genq (P := WX11_must 115 i_t_spot i_t_end i_t_isWrong f_t_s) hw
    clear hw
    have hPc := hP.sub (ws' := [(a_t, .inr (10, [w_t_thrown, .ref a_t_s, w_t_image, w_t_hasImage, w_t_act, .int i_t_spot, .int i_t_end, .int i_t_isWrong, w_t_open, .int i_t_readMany, .int i_t_readSpan, .int i_t_readSum, .int i_t_readOdds, .ref a_t_readBank, .ref a_t_readMill, .ref a_t_readLevel, w_t_levels, w_t_boardsNow, w_t_ways, w_t_nexts, w_t_hourNow, w_t_staying, w_t_leftCard, w_t_leftLine, w_t_isMute, w_t_higher, w_t_over, w_t_dry, w_t_truths, w_t_failHours, w_t_failRow, w_t_keptBoards, w_t_keptHung, w_t_bodies, w_t_ran, w_t_kind, w_t_number, w_t_tellsV])), (a_t_s, .inl (cyI, 1454, .inl f_t_s))]) [3, 4] rfl
    have hDc := hD.sub (ws' := [(a_t, .inr (10, [w_t_thrown, .ref a_t_s, w_t_image, w_t_hasImage, w_t_act, .int i_t_spot, .int i_t_end, .int i_t_isWrong, w_t_open, .int i_t_readMany, .int i_t_readSpan, .int i_t_readSum, .int i_t_readOdds, .ref a_t_readBank, .ref a_t_readMill, .ref a_t_readLevel, w_t_levels, w_t_boardsNow, w_t_ways, w_t_nexts, w_t_hourNow, w_t_staying, w_t_leftCard, w_t_leftLine, w_t_isMute, w_t_higher, w_t_over, w_t_dry, w_t_truths, w_t_failHours, w_t_failRow, w_t_keptBoards, w_t_keptHung, w_t_bodies, w_t_ran, w_t_kind, w_t_number, w_t_tellsV])), (a_t_s, .inl (cyI, 1454, .inl f_t_s))]) [3, 4] (by decide) rfl
    have hFc := va_free (wc := [(a_t, .inr (10, [w_t_thrown, .ref a_t_s, w_t_image, w_t_hasImage, w_t_act, .int i_t_spot, .int i_t_end, .int i_t_isWrong, w_t_open, .int i_t_readMany, .int i_t_readSpan, .int i_t_readSum, .int i_t_readOdds, .ref a_t_readBank, .ref a_t_readMill, .ref a_t_readLevel, w_t_levels, w_t_boardsNow, w_t_ways, w_t_nexts, w_t_hourNow, w_t_staying, w_t_leftCard, w_t_leftLine, w_t_isMute, w_t_higher, w_t_over, w_t_dry, w_t_truths, w_t_failHours, w_t_failRow, w_t_keptBoards, w_t_keptHung, w_t_bodies, w_t_ran, w_t_kind, w_t_number, w_t_tellsV])), (a_t_s, .inl (cyI, 1454, .inl f_t_s))]) hD hS hA [3, 4] rfl
    refine va_callv (va_runV (As := [.int 115]) (rest := []) ⟨hx, hb, hml, hown, hts⟩ (MX11_must l D cyI cyZ cyC ro ce cin ad a_t a_t_s  (w_t_thrown) (w_t_image) (w_t_hasImage) (w_t_act) (w_t_open) (.int i_t_readMany) (.int i_t_readSpan) (.int i_t_readSum) (.int i_t_readOdds) (.ref a_t_readBank) (.ref a_t_readMill) (.ref a_t_readLevel) (w_t_levels) (w_t_boardsNow) (w_t_ways) (w_t_nexts) (w_t_hourNow) (w_t_staying) (w_t_leftCard) (w_t_leftLine) (w_t_isMute) (w_t_higher) (w_t_over) (w_t_dry) (w_t_truths) (w_t_failHours) (w_t_failRow) (w_t_keptBoards) (w_t_keptHung) (w_t_bodies) (w_t_ran) (w_t_kind) (w_t_number) (w_t_tellsV) H.size 115 i_t_spot i_t_end i_t_isWrong f_t_s QK  hq) (cwV 1 hts gX11_riverHere_X11_must rfl rfl rfl ⟨rfl, dmX11_must⟩ ⟨Nat.le_of_ble_eq_true rfl, Nat.le_of_ble_eq_true rfl⟩) ⟨pre_bl, va_recv hK hPc (ci := 10) (q0 := 0) rfl rfl, fun U hU hW => ⟨rfl, pre_of hX hS hK hPc hDc hFc hU hW⟩⟩ rfl rfl hl.1 rfl (lv_room (Nat.le_of_ble_eq_true rfl)) dX11_riverHere_50 ⟨Nat.zero_le _, Nat.zero_le _⟩) hS (fun q _ h => hFc q h) hFc (fun u t H1 locs ht hvm hw hB hz1 hk1 hS => ?_)
    obtain ⟨i_t_spot_16, i_t_isWrong_17⟩ := u
    replace hw : QK i_t_spot_16 i_t_isWrong_17 := hw
    clear hq
    subst eQ
    obtain ⟨hP1, hD1⟩ := hB
    rw [ht] at hP1
    obtain ⟨hP, hD⟩ := va_join (wr := [(a_t_readBank, .inl (cyI, 3, .inl f_t_readBank)), (a_t_readMill, .inl (cyI, 3, .inl f_t_readMill)), (a_t_readLevel, .inl (cyI, 3, .inl f_t_readLevel))]) (w1 := [(a_t, .inr (10, [w_t_thrown, .ref a_t_s, w_t_image, w_t_hasImage, w_t_act, .int i_t_spot_16, .int i_t_end, .int i_t_isWrong_17, w_t_open, .int i_t_readMany, .int i_t_readSpan, .int i_t_readSum, .int i_t_readOdds, .ref a_t_readBank, .ref a_t_readMill, .ref a_t_readLevel, w_t_levels, w_t_boardsNow, w_t_ways, w_t_nexts, w_t_hourNow, w_t_staying, w_t_leftCard, w_t_leftLine, w_t_isMute, w_t_higher, w_t_over, w_t_dry, w_t_truths, w_t_failHours, w_t_failRow, w_t_keptBoards, w_t_keptHung, w_t_bodies, w_t_ran, w_t_kind, w_t_number, w_t_tellsV])), (a_t_s, .inl (cyI, 1454, .inl f_t_s))]) hP hD [3, 4] [0, 1, 2] rfl rfl (by decide) (by decide) hk1 hFc hP1 hD1
    clear hPc hDc hFc hk1 hz1 hP1 hD1 ht hvm
    generalize H1 = H at hP hS ⊢
    replace hP : va_P D vwCl [(a_t_readBank, .inl (cyI, 3, .inl f_t_readBank)), (a_t_readMill, .inl (cyI, 3, .inl f_t_readMill)), (a_t_readLevel, .inl (cyI, 3, .inl f_t_readLevel)), (a_t, .inr (10, [w_t_thrown, .ref a_t_s, w_t_image, w_t_hasImage, w_t_act, .int i_t_spot_16, .int i_t_end, .int i_t_isWrong_17, w_t_open, .int i_t_readMany, .int i_t_readSpan, .int i_t_readSum, .int i_t_readOdds, .ref a_t_readBank, .ref a_t_readMill, .ref a_t_readLevel, w_t_levels, w_t_boardsNow, w_t_ways, w_t_nexts, w_t_hourNow, w_t_staying, w_t_leftCard, w_t_leftLine, w_t_isMute, w_t_higher, w_t_over, w_t_dry, w_t_truths, w_t_failHours, w_t_failRow, w_t_keptBoards, w_t_keptHung, w_t_bodies, w_t_ran, w_t_kind, w_t_number, w_t_tellsV])), (a_t_s, .inl (cyI, 1454, .inl f_t_s))] H := hP
    replace hD : va_D A [(a_t_readBank, .inl (cyI, 3, .inl f_t_readBank)), (a_t_readMill, .inl (cyI, 3, .inl f_t_readMill)), (a_t_readLevel, .inl (cyI, 3, .inl f_t_readLevel)), (a_t, .inr (10, [w_t_thrown, .ref a_t_s, w_t_image, w_t_hasImage, w_t_act, .int i_t_spot_16, .int i_t_end, .int i_t_isWrong_17, w_t_open, .int i_t_readMany, .int i_t_readSpan, .int i_t_readSum, .int i_t_readOdds, .ref a_t_readBank, .ref a_t_readMill, .ref a_t_readLevel, w_t_levels, w_t_boardsNow, w_t_ways, w_t_nexts, w_t_hourNow, w_t_staying, w_t_leftCard, w_t_leftLine, w_t_isMute, w_t_higher, w_t_over, w_t_dry, w_t_truths, w_t_failHours, w_t_failRow, w_t_keptBoards, w_t_keptHung, w_t_bodies, w_t_ran, w_t_kind, w_t_number, w_t_tellsV])), (a_t_s, .inl (cyI, 1454, .inl f_t_s))] := hD
    refine lv_aload_n hx hb dX11_riverHere_53 rfl (lv_at hl 0 rfl) ?_
    obtain ⟨QK, eQ, hq⟩ := genq (P := WX11_here i_t_spot_16 i_t_end f_t_s) hw
    clear hw
    have hPc := hP.sub (ws' := [(a_t, .inr (10, [w_t_thrown, .ref a_t_s, w_t_image, w_t_hasImage, w_t_act, .int i_t_spot_16, .int i_t_end, .int i_t_isWrong_17, w_t_open, .int i_t_readMany, .int i_t_readSpan, .int i_t_readSum, .int i_t_readOdds, .ref a_t_readBank, .ref a_t_readMill, .ref a_t_readLevel, w_t_levels, w_t_boardsNow, w_t_ways, w_t_nexts, w_t_hourNow, w_t_staying, w_t_leftCard, w_t_leftLine, w_t_isMute, w_t_higher, w_t_over, w_t_dry, w_t_truths, w_t_failHours, w_t_failRow, w_t_keptBoards, w_t_keptHung, w_t_bodies, w_t_ran, w_t_kind, w_t_number, w_t_tellsV])), (a_t_s, .inl (cyI, 1454, .inl f_t_s))]) [3, 4] rfl
    have hDc := hD.sub (ws' := [(a_t, .inr (10, [w_t_thrown, .ref a_t_s, w_t_image, w_t_hasImage, w_t_act, .int i_t_spot_16, .int i_t_end, .int i_t_isWrong_17, w_t_open, .int i_t_readMany, .int i_t_readSpan, .int i_t_readSum, .int i_t_readOdds, .ref a_t_readBank, .ref a_t_readMill, .ref a_t_readLevel, w_t_levels, w_t_boardsNow, w_t_ways, w_t_nexts, w_t_hourNow, w_t_staying, w_t_leftCard, w_t_leftLine, w_t_isMute, w_t_higher, w_t_over, w_t_dry, w_t_truths, w_t_failHours, w_t_failRow, w_t_keptBoards, w_t_keptHung, w_t_bodies, w_t_ran, w_t_kind, w_t_number, w_t_tellsV])), (a_t_s, .inl (cyI, 1454, .inl f_t_s))]) [3, 4] (by decide) rfl
    have hFc := va_free (wc := [(a_t, .inr (10, [w_t_thrown, .ref a_t_s, w_t_image, w_t_hasImage, w_t_act, .int i_t_spot_16, .int i_t_end, .int i_t_isWrong_17, w_t_open, .int i_t_readMany, .int i_t_readSpan, .int i_t_readSum, .int i_t_readOdds, .ref a_t_readBank, .ref a_t_readMill, .ref a_t_readLevel, w_t_levels, w_t_boardsNow, w_t_ways, w_t_nexts, w_t_hourNow, w_t_staying, w_t_leftCard, w_t_leftLine, w_t_isMute, w_t_higher, w_t_over, w_t_dry, w_t_truths, w_t_failHours, w_t_failRow, w_t_keptBoards, w_t_keptHung, w_t_bodies, w_t_ran, w_t_kind, w_t_number, w_t_tellsV])), (a_t_s, .inl (cyI, 1454, .inl f_t_s))]) hD hS hA [3, 4] rfl
    refine va_calli (va_runV (As := []) (rest := []) ⟨hx, hb, hml, hown, hts⟩ (MX11_here l D cyI cyZ cyC ro ce cin ad a_t a_t_s  (w_t_thrown) (w_t_image) (w_t_hasImage) (w_t_act) (.int i_t_isWrong_17) (w_t_open) (.int i_t_readMany) (.int i_t_readSpan) (.int i_t_readSum) (.int i_t_readOdds) (.ref a_t_readBank) (.ref a_t_readMill) (.ref a_t_readLevel) (w_t_levels) (w_t_boardsNow) (w_t_ways) (w_t_nexts) (w_t_hourNow) (w_t_staying) (w_t_leftCard) (w_t_leftLine) (w_t_isMute) (w_t_higher) (w_t_over) (w_t_dry) (w_t_truths) (w_t_failHours) (w_t_failRow) (w_t_keptBoards) (w_t_keptHung) (w_t_bodies) (w_t_ran) (w_t_kind) (w_t_number) (w_t_tellsV) H.size i_t_spot_16 i_t_end f_t_s QK  hq) (cwV 0 hts gX11_riverHere_X11_here rfl rfl rfl ⟨rfl, dmX11_here⟩ ⟨Nat.le_of_ble_eq_true rfl, Nat.le_of_ble_eq_true rfl⟩) ⟨pre_bl, va_recv hK hPc (ci := 10) (q0 := 0) rfl rfl, fun U hU hW => ⟨rfl, pre_of hX hS hK hPc hDc hFc hU hW⟩⟩ rfl rfl hl.1 rfl (lv_room (Nat.le_of_ble_eq_true rfl)) dX11_riverHere_54 ⟨Nat.zero_le _, Nat.zero_le _⟩) hS (fun q _ h => hFc q h) hFc (fun r18 u t H1 locs ht hvm hw hB hz1 hk1 hS => ?_)
    replace hw : QK r18 := hw
    clear hq
    subst eQ
    obtain ⟨hP1, hD1⟩ := hB
    rw [ht] at hP1
    obtain ⟨hP, hD⟩ := va_join (wr := [(a_t_readBank, .inl (cyI, 3, .inl f_t_readBank)), (a_t_readMill, .inl (cyI, 3, .inl f_t_readMill)), (a_t_readLevel, .inl (cyI, 3, .inl f_t_readLevel))]) (w1 := [(a_t, .inr (10, [w_t_thrown, .ref a_t_s, w_t_image, w_t_hasImage, w_t_act, .int i_t_spot_16, .int i_t_end, .int i_t_isWrong_17, w_t_open, .int i_t_readMany, .int i_t_readSpan, .int i_t_readSum, .int i_t_readOdds, .ref a_t_readBank, .ref a_t_readMill, .ref a_t_readLevel, w_t_levels, w_t_boardsNow, w_t_ways, w_t_nexts, w_t_hourNow, w_t_staying, w_t_leftCard, w_t_leftLine, w_t_isMute, w_t_higher, w_t_over, w_t_dry, w_t_truths, w_t_failHours, w_t_failRow, w_t_keptBoards, w_t_keptHung, w_t_bodies, w_t_ran, w_t_kind, w_t_number, w_t_tellsV])), (a_t_s, .inl (cyI, 1454, .inl f_t_s))]) hP hD [3, 4] [0, 1, 2] rfl rfl (by decide) (by decide) hk1 hFc hP1 hD1
    clear hPc hDc hFc hk1 hz1 hP1 hD1 ht hvm
    generalize H1 = H at hP hS ⊢
    replace hP : va_P D vwCl [(a_t_readBank, .inl (cyI, 3, .inl f_t_readBank)), (a_t_readMill, .inl (cyI, 3, .inl f_t_readMill)), (a_t_readLevel, .inl (cyI, 3, .inl f_t_readLevel)), (a_t, .inr (10, [w_t_thrown, .ref a_t_s, w_t_image, w_t_hasImage, w_t_act, .int i_t_spot_16, .int i_t_end, .int i_t_isWrong_17, w_t_open, .int i_t_readMany, .int i_t_readSpan, .int i_t_readSum, .int i_t_readOdds, .ref a_t_readBank, .ref a_t_readMill, .ref a_t_readLevel, w_t_levels, w_t_boardsNow, w_t_ways, w_t_nexts, w_t_hourNow, w_t_staying, w_t_leftCard, w_t_leftLine, w_t_isMute, w_t_higher, w_t_over, w_t_dry, w_t_truths, w_t_failHours, w_t_failRow, w_t_keptBoards, w_t_keptHung, w_t_bodies, w_t_ran, w_t_kind, w_t_number, w_t_tellsV])), (a_t_s, .inl (cyI, 1454, .inl f_t_s))] H := hP
    replace hD : va_D A [(a_t_readBank, .inl (cyI, 3, .inl f_t_readBank)), (a_t_readMill, .inl (cyI, 3, .inl f_t_readMill)), (a_t_readLevel, .inl (cyI, 3, .inl f_t_readLevel)), (a_t, .inr (10, [w_t_thrown, .ref a_t_s, w_t_image, w_t_hasImage, w_t_act, .int i_t_spot_16, .int i_t_end, .int i_t_isWrong_17, w_t_open, .int i_t_readMany, .int i_t_readSpan, .int i_t_readSum, .int i_t_readOdds, .ref a_t_readBank, .ref a_t_readMill, .ref a_t_readLevel, w_t_levels, w_t_boardsNow, w_t_ways, w_t_nexts, w_t_hourNow, w_t_staying, w_t_leftCard, w_t_leftLine, w_t_isMute, w_t_higher, w_t_over, w_t_dry, w_t_truths, w_t_failHours, w_t_failRow, w_t_keptBoards, w_t_keptHung, w_t_bodies, w_t_ran, w_t_kind, w_t_number, w_t_tellsV])), (a_t_s, .inl (cyI, 1454, .inl f_t_s))] := hD
    refine lv_bipush (v := 112) hx hb dX11_riverHere_57 (by decide) ?_
    refine lv_icmp_ne (tgt := 66) hx hb dX11_riverHere_59 (by decide) (fun c19 => ?_) (fun c19 => ?_)
    · replace hw := hw.2 c19
      refine lv_iconst (v := 0) hx hb dX11_riverHere_66 (by decide) ?_
      have hPj := hP.sub (ws' := [(a_t, .inr (10, [w_t_thrown, .ref a_t_s, w_t_image, w_t_hasImage, w_t_act, .int i_t_spot_16, .int i_t_end, .int i_t_isWrong_17, w_t_open, .int i_t_readMany, .int i_t_readSpan, .int i_t_readSum, .int i_t_readOdds, .ref a_t_readBank, .ref a_t_readMill, .ref a_t_readLevel, w_t_levels, w_t_boardsNow, w_t_ways, w_t_nexts, w_t_hourNow, w_t_staying, w_t_leftCard, w_t_leftLine, w_t_isMute, w_t_higher, w_t_over, w_t_dry, w_t_truths, w_t_failHours, w_t_failRow, w_t_keptBoards, w_t_keptHung, w_t_bodies, w_t_ran, w_t_kind, w_t_number, w_t_tellsV])), (a_t_s, .inl (cyI, 1454, .inl f_t_s)), (a_t_readBank, .inl (cyI, 3, .inl f_t_readBank)), (a_t_readMill, .inl (cyI, 3, .inl f_t_readMill)), (a_t_readLevel, .inl (cyI, 3, .inl f_t_readLevel))]) [3, 4, 0, 1, 2] rfl
      have hDj := hD.sub (ws' := [(a_t, .inr (10, [w_t_thrown, .ref a_t_s, w_t_image, w_t_hasImage, w_t_act, .int i_t_spot_16, .int i_t_end, .int i_t_isWrong_17, w_t_open, .int i_t_readMany, .int i_t_readSpan, .int i_t_readSum, .int i_t_readOdds, .ref a_t_readBank, .ref a_t_readMill, .ref a_t_readLevel, w_t_levels, w_t_boardsNow, w_t_ways, w_t_nexts, w_t_hourNow, w_t_staying, w_t_leftCard, w_t_leftLine, w_t_isMute, w_t_higher, w_t_over, w_t_dry, w_t_truths, w_t_failHours, w_t_failRow, w_t_keptBoards, w_t_keptHung, w_t_bodies, w_t_ran, w_t_kind, w_t_number, w_t_tellsV])), (a_t_s, .inl (cyI, 1454, .inl f_t_s)), (a_t_readBank, .inl (cyI, 3, .inl f_t_readBank)), (a_t_readMill, .inl (cyI, 3, .inl f_t_readMill)), (a_t_readLevel, .inl (cyI, 3, .inl f_t_readLevel))]) [3, 4, 0, 1, 2] (by decide) rfl
      exact B67 0 i_t_spot_16 i_t_isWrong_17 i_t_readMany i_t_readSpan i_t_readSum i_t_readOdds f_t_readBank f_t_readMill f_t_readLevel hw _ _ hPj hDj hS _ (lv_sub hl [0] rfl)
    · replace hw := hw.1 c19
      refine lv_iconst (v := 1) hx hb dX11_riverHere_62 (by decide) ?_
      refine lv_goto (tgt := 67) hx hb dX11_riverHere_63 (by decide) ?_
      have hPj := hP.sub (ws' := [(a_t, .inr (10, [w_t_thrown, .ref a_t_s, w_t_image, w_t_hasImage, w_t_act, .int i_t_spot_16, .int i_t_end, .int i_t_isWrong_17, w_t_open, .int i_t_readMany, .int i_t_readSpan, .int i_t_readSum, .int i_t_readOdds, .ref a_t_readBank, .ref a_t_readMill, .ref a_t_readLevel, w_t_levels, w_t_boardsNow, w_t_ways, w_t_nexts, w_t_hourNow, w_t_staying, w_t_leftCard, w_t_leftLine, w_t_isMute, w_t_higher, w_t_over, w_t_dry, w_t_truths, w_t_failHours, w_t_failRow, w_t_keptBoards, w_t_keptHung, w_t_bodies, w_t_ran, w_t_kind, w_t_number, w_t_tellsV])), (a_t_s, .inl (cyI, 1454, .inl f_t_s)), (a_t_readBank, .inl (cyI, 3, .inl f_t_readBank)), (a_t_readMill, .inl (cyI, 3, .inl f_t_readMill)), (a_t_readLevel, .inl (cyI, 3, .inl f_t_readLevel))]) [3, 4, 0, 1, 2] rfl
      have hDj := hD.sub (ws' := [(a_t, .inr (10, [w_t_thrown, .ref a_t_s, w_t_image, w_t_hasImage, w_t_act, .int i_t_spot_16, .int i_t_end, .int i_t_isWrong_17, w_t_open, .int i_t_readMany, .int i_t_readSpan, .int i_t_readSum, .int i_t_readOdds, .ref a_t_readBank, .ref a_t_readMill, .ref a_t_readLevel, w_t_levels, w_t_boardsNow, w_t_ways, w_t_nexts, w_t_hourNow, w_t_staying, w_t_leftCard, w_t_leftLine, w_t_isMute, w_t_higher, w_t_over, w_t_dry, w_t_truths, w_t_failHours, w_t_failRow, w_t_keptBoards, w_t_keptHung, w_t_bodies, w_t_ran, w_t_kind, w_t_number, w_t_tellsV])), (a_t_s, .inl (cyI, 1454, .inl f_t_s)), (a_t_readBank, .inl (cyI, 3, .inl f_t_readBank)), (a_t_readMill, .inl (cyI, 3, .inl f_t_readMill)), (a_t_readLevel, .inl (cyI, 3, .inl f_t_readLevel))]) [3, 4, 0, 1, 2] (by decide) rfl
      exact B67 1 i_t_spot_16 i_t_isWrong_17 i_t_readMany i_t_readSpan i_t_readSum i_t_readOdds f_t_readBank f_t_readMill f_t_readLevel hw _ _ hPj hDj hS _ (lv_sub hl [0] rfl)
  replace hw := hw.2 c15
  have hd34 : W p l e { frames := 7, cells := 0, slots := 0, locals := 148 } s m ([.ref a_t] : List Value).toArray below meth c H locs 0 0 (MQ below (va_Qv (fun (u : Int32 × Int32 × Int32 × Int32 × Int32 × Int32 × (Nat → Int32) × (Nat → Int32) × (Nat → Int32)) => Q u.1 u.2.1 u.2.2.1 u.2.2.2.1 u.2.2.2.2.1 u.2.2.2.2.2.1 u.2.2.2.2.2.2.1 u.2.2.2.2.2.2.2.1 u.2.2.2.2.2.2.2.2) (fun (u : Int32 × Int32 × Int32 × Int32 × Int32 × Int32 × (Nat → Int32) × (Nat → Int32) × (Nat → Int32)) (t : State) => POST D A (SX11_riverHere cyI cyZ cyC a_t a_t_s a_t_readBank a_t_readMill a_t_readLevel w_t_thrown w_t_image w_t_hasImage w_t_act w_t_open w_t_levels w_t_boardsNow w_t_ways w_t_nexts w_t_hourNow w_t_staying w_t_leftCard w_t_leftLine w_t_isMute w_t_higher w_t_over w_t_dry w_t_truths w_t_failHours w_t_failRow w_t_keptBoards w_t_keptHung w_t_bodies w_t_ran w_t_kind w_t_number w_t_tellsV  u.1 i_t_end u.2.1 u.2.2.1 u.2.2.2.1 u.2.2.2.2.1 u.2.2.2.2.2.1 f_t_s u.2.2.2.2.2.2.1 u.2.2.2.2.2.2.2.1 u.2.2.2.2.2.2.2.2) t) A) ([.ref a_t] : List Value).toArray s 0 0 A) (F0 m 146 ls []) := by
    refine lv_aload_n hx hb dX11_riverHere_146 rfl (lv_at hl 0 rfl) ?_
    refine lv_iconst (v := 1) hx hb dX11_riverHere_147 (by decide) ?_
    refine va_put (D := D) (ci := 10) (v := .int 1) (ty := .boolean) (C := RX11) (T := TX11) (N := 38) hx hb hts inX11_riverHere_X11 tyX11 tyX11_ok nmX11 hown hK hP hD hS 3 rfl rfl 7 (by decide) (hts _ (List.mem_of_getElem? (i := 4) rfl)) (fun _ h9 => h9) rfl (tyX11_ok 7 (by decide)) rfl rfl (Nat.le_of_ble_eq_true rfl) dX11_riverHere_148 (fun H locs hP hD hS => ?_)
    replace hP : va_P D vwCl [(a_t_readBank, .inl (cyI, 3, .inl f_t_readBank)), (a_t_readMill, .inl (cyI, 3, .inl f_t_readMill)), (a_t_readLevel, .inl (cyI, 3, .inl f_t_readLevel)), (a_t, .inr (10, [w_t_thrown, .ref a_t_s, w_t_image, w_t_hasImage, w_t_act, .int i_t_spot, .int i_t_end, .int 1, w_t_open, .int i_t_readMany, .int i_t_readSpan, .int i_t_readSum, .int i_t_readOdds, .ref a_t_readBank, .ref a_t_readMill, .ref a_t_readLevel, w_t_levels, w_t_boardsNow, w_t_ways, w_t_nexts, w_t_hourNow, w_t_staying, w_t_leftCard, w_t_leftLine, w_t_isMute, w_t_higher, w_t_over, w_t_dry, w_t_truths, w_t_failHours, w_t_failRow, w_t_keptBoards, w_t_keptHung, w_t_bodies, w_t_ran, w_t_kind, w_t_number, w_t_tellsV])), (a_t_s, .inl (cyI, 1454, .inl f_t_s))] H := hP
    replace hD : va_D A [(a_t_readBank, .inl (cyI, 3, .inl f_t_readBank)), (a_t_readMill, .inl (cyI, 3, .inl f_t_readMill)), (a_t_readLevel, .inl (cyI, 3, .inl f_t_readLevel)), (a_t, .inr (10, [w_t_thrown, .ref a_t_s, w_t_image, w_t_hasImage, w_t_act, .int i_t_spot, .int i_t_end, .int 1, w_t_open, .int i_t_readMany, .int i_t_readSpan, .int i_t_readSum, .int i_t_readOdds, .ref a_t_readBank, .ref a_t_readMill, .ref a_t_readLevel, w_t_levels, w_t_boardsNow, w_t_ways, w_t_nexts, w_t_hourNow, w_t_staying, w_t_leftCard, w_t_leftLine, w_t_isMute, w_t_higher, w_t_over, w_t_dry, w_t_truths, w_t_failHours, w_t_failRow, w_t_keptBoards, w_t_keptHung, w_t_bodies, w_t_ran, w_t_kind, w_t_number, w_t_tellsV])), (a_t_s, .inl (cyI, 1454, .inl f_t_s))] := hD
    have hPj := hP.sub (ws' := [(a_t, .inr (10, [w_t_thrown, .ref a_t_s, w_t_image, w_t_hasImage, w_t_act, .int i_t_spot, .int i_t_end, .int 1, w_t_open, .int i_t_readMany, .int i_t_readSpan, .int i_t_readSum, .int i_t_readOdds, .ref a_t_readBank, .ref a_t_readMill, .ref a_t_readLevel, w_t_levels, w_t_boardsNow, w_t_ways, w_t_nexts, w_t_hourNow, w_t_staying, w_t_leftCard, w_t_leftLine, w_t_isMute, w_t_higher, w_t_over, w_t_dry, w_t_truths, w_t_failHours, w_t_failRow, w_t_keptBoards, w_t_keptHung, w_t_bodies, w_t_ran, w_t_kind, w_t_number, w_t_tellsV])), (a_t_s, .inl (cyI, 1454, .inl f_t_s)), (a_t_readBank, .inl (cyI, 3, .inl f_t_readBank)), (a_t_readMill, .inl (cyI, 3, .inl f_t_readMill)), (a_t_readLevel, .inl (cyI, 3, .inl f_t_readLevel))]) [3, 4, 0, 1, 2] rfl
    have hDj := hD.sub (ws' := [(a_t, .inr (10, [w_t_thrown, .ref a_t_s, w_t_image, w_t_hasImage, w_t_act, .int i_t_spot, .int i_t_end, .int 1, w_t_open, .int i_t_readMany, .int i_t_readSpan, .int i_t_readSum, .int i_t_readOdds, .ref a_t_readBank, .ref a_t_readMill, .ref a_t_readLevel, w_t_levels, w_t_boardsNow, w_t_ways, w_t_nexts, w_t_hourNow, w_t_staying, w_t_leftCard, w_t_leftLine, w_t_isMute, w_t_higher, w_t_over, w_t_dry, w_t_truths, w_t_failHours, w_t_failRow, w_t_keptBoards, w_t_keptHung, w_t_bodies, w_t_ran, w_t_kind, w_t_number, w_t_tellsV])), (a_t_s, .inl (cyI, 1454, .inl f_t_s)), (a_t_readBank, .inl (cyI, 3, .inl f_t_readBank)), (a_t_readMill, .inl (cyI, 3, .inl f_t_readMill)), (a_t_readLevel, .inl (cyI, 3, .inl f_t_readLevel))]) [3, 4, 0, 1, 2] (by decide) rfl
    exact W.vret hx hb hr (fun t ht hW => ⟨⟨(i_t_spot, 1, i_t_readMany, i_t_readSpan, i_t_readSum, i_t_readOdds, f_t_readBank, f_t_readMill, f_t_readLevel), rfl, hw, post_mk ht hPj hDj⟩, hS.F ht⟩) hS.2.2 dX11_riverHere_151 hlocks
  by_cases c35 : r1 = 112
  · exact lv_tableIn (off := 142) (tgt := 146) hx hb dX11_riverHere_4 (by rw [c35]; decide) (by rw [c35]; decide) (by rw [c35]; rfl) (by decide) hd34
  by_cases c36 : r1 = 113
  · exact lv_tableIn (off := 142) (tgt := 146) hx hb dX11_riverHere_4 (by rw [c36]; decide) (by rw [c36]; decide) (by rw [c36]; rfl) (by decide) hd34
  have hne0 := lv_neT (a := 111) c2 (by decide)
  have hne1 := lv_neT (a := 114) c8 (by decide)
  have hne2 := lv_neT (a := 115) c15 (by decide)
  have hne3 := lv_neT (a := 112) c35 (by decide)
  have hne4 := lv_neT (a := 113) c36 (by decide)
  exact lv_tableOut (tgt := 146) hx hb dX11_riverHere_4 (by omega) (by decide) hd34
