/-! ===== by program: contracts ===== -/
set_option maxHeartbeats 8000000 in
set_option maxRecDepth 100000 in
theorem MX11_act (l : Launch) (D : va_G) (cyI cyZ cyC : ClassId) (ro : va_W) (ce : Nat → CT) (cin : Nat → Prop) (ad : AD) (a_t a_t_s a_t_bodies : Nat) (w_t_thrown w_t_image w_t_hasImage w_t_act w_t_spot w_t_end w_t_isWrong w_t_open w_t_readMany w_t_readSpan w_t_readSum w_t_readOdds w_t_readBank w_t_readMill w_t_readLevel w_t_levels w_t_boardsNow w_t_ways w_t_nexts w_t_hourNow w_t_staying w_t_leftCard w_t_leftLine w_t_isMute w_t_higher w_t_over w_t_dry w_t_truths w_t_failHours w_t_failRow w_t_keptBoards w_t_keptHung : Value) (sz : Nat) (x1 : Int32) (x2 : Int32) (x3 : Int32) (i_t_ran : Int32) (i_t_kind : Int32) (i_t_number : Int32) (i_t_tellsV : Int32) (f_t_s : Nat → Int32) (f_t_bodies : Nat → Int32) (Q : Int32 → Int32 → Int32 → Int32 → Int32 → (Nat → Int32) → Prop)  (hw : WX11_act x1 x2 x3 i_t_ran i_t_kind i_t_number i_t_tellsV f_t_s f_t_bodies Q) : Met l yX11_act wsX11_act ({ frames := 8, cells := 0, slots := 0, locals := 169 }) (va_Pc [.ref a_t, .int x1, .int x2, .int x3] (PRE D cyI cyZ cyC ro ce cin ad (SX11_act cyI cyZ cyC a_t a_t_s a_t_bodies w_t_thrown w_t_image w_t_hasImage w_t_act w_t_spot w_t_end w_t_isWrong w_t_open w_t_readMany w_t_readSpan w_t_readSum w_t_readOdds w_t_readBank w_t_readMill w_t_readLevel w_t_levels w_t_boardsNow w_t_ways w_t_nexts w_t_hourNow w_t_staying w_t_leftCard w_t_leftLine w_t_isMute w_t_higher w_t_over w_t_dry w_t_truths w_t_failHours w_t_failRow w_t_keptBoards w_t_keptHung  i_t_ran i_t_kind i_t_number i_t_tellsV f_t_s f_t_bodies) sz)) (va_Qi (fun (r : Int32) (u : Int32 × Int32 × Int32 × Int32 × (Nat → Int32)) => Q r u.1 u.2.1 u.2.2.1 u.2.2.2.1 u.2.2.2.2) (fun (u : Int32 × Int32 × Int32 × Int32 × (Nat → Int32)) (t : State) => POST D (va_A (SX11_act cyI cyZ cyC a_t a_t_s a_t_bodies w_t_thrown w_t_image w_t_hasImage w_t_act w_t_spot w_t_end w_t_isWrong w_t_open w_t_readMany w_t_readSpan w_t_readSum w_t_readOdds w_t_readBank w_t_readMill w_t_readLevel w_t_levels w_t_boardsNow w_t_ways w_t_nexts w_t_hourNow w_t_staying w_t_leftCard w_t_leftLine w_t_isMute w_t_higher w_t_over w_t_dry w_t_truths w_t_failHours w_t_failRow w_t_keptBoards w_t_keptHung  i_t_ran i_t_kind i_t_number i_t_tellsV f_t_s f_t_bodies) sz) (SX11_act cyI cyZ cyC a_t a_t_s a_t_bodies w_t_thrown w_t_image w_t_hasImage w_t_act w_t_spot w_t_end w_t_isWrong w_t_open w_t_readMany w_t_readSpan w_t_readSum w_t_readOdds w_t_readBank w_t_readMill w_t_readLevel w_t_levels w_t_boardsNow w_t_ways w_t_nexts w_t_hourNow w_t_staying w_t_leftCard w_t_leftLine w_t_isMute w_t_higher w_t_over w_t_dry w_t_truths w_t_failHours w_t_failRow w_t_keptBoards w_t_keptHung  u.1 u.2.1 u.2.2.1 u.2.2.2.1 f_t_s u.2.2.2.2) t) (va_A (SX11_act cyI cyZ cyC a_t a_t_s a_t_bodies w_t_thrown w_t_image w_t_hasImage w_t_act w_t_spot w_t_end w_t_isWrong w_t_open w_t_readMany w_t_readSpan w_t_readSum w_t_readOdds w_t_readBank w_t_readMill w_t_readLevel w_t_levels w_t_boardsNow w_t_ways w_t_nexts w_t_hourNow w_t_staying w_t_leftCard w_t_leftLine w_t_isMute w_t_higher w_t_over w_t_dry w_t_truths w_t_failHours w_t_failRow w_t_keptBoards w_t_keptHung  i_t_ran i_t_kind i_t_number i_t_tellsV f_t_s f_t_bodies) sz)) 0 0 (va_A (SX11_act cyI cyZ cyC a_t a_t_s a_t_bodies w_t_thrown w_t_image w_t_hasImage w_t_act w_t_spot w_t_end w_t_isWrong w_t_open w_t_readMany w_t_readSpan w_t_readSum w_t_readOdds w_t_readBank w_t_readMill w_t_readLevel w_t_levels w_t_boardsNow w_t_ways w_t_nexts w_t_hourNow w_t_staying w_t_leftCard w_t_leftLine w_t_isMute w_t_higher w_t_over w_t_dry w_t_truths w_t_failHours w_t_failRow w_t_keptBoards w_t_keptHung  i_t_ran i_t_kind i_t_number i_t_tellsV f_t_s f_t_bodies) sz) := by
  refine Met.ofW (cc := cX11_act) (maxL := 4) (ret := (some .int)) (by decide +kernel) rfl ?_
  intro p e s m args below meth c s₁ B hml hv
  obtain ⟨rfl, hsz, hP, hK, hD0, hX⟩ := hv
  have hx := B.exec
  have hb := B.bytes
  have hr := B.returns
  have hts := atoms_spec (ws := wsX11_act) B.pre
  have hown : s.vm.findClass RX11 = some m.cls := findClass_of_methodNamed B.named
  have hlocks := B.notSynchronized
  clear B
  subst hsz
  have hD := hD0.self (sz := s.heap.size)
  clear hD0
  generalize hAe : va_A (SX11_act cyI cyZ cyC a_t a_t_s a_t_bodies w_t_thrown w_t_image w_t_hasImage w_t_act w_t_spot w_t_end w_t_isWrong w_t_open w_t_readMany w_t_readSpan w_t_readSum w_t_readOdds w_t_readBank w_t_readMill w_t_readLevel w_t_levels w_t_boardsNow w_t_ways w_t_nexts w_t_hourNow w_t_staying w_t_leftCard w_t_leftLine w_t_isMute w_t_higher w_t_over w_t_dry w_t_truths w_t_failHours w_t_failRow w_t_keptBoards w_t_keptHung  i_t_ran i_t_kind i_t_number i_t_tellsV f_t_s f_t_bodies) s.heap.size = A at hD hX ⊢
  have hA : ∀ q : Nat, s.heap.size ≤ q → A q := fun q h => by rw [← hAe]; exact Or.inr h
  clear hAe
  obtain ⟨H, hH⟩ : ∃ H, H = s.heap := ⟨_, rfl⟩
  rw [← hH] at hP ⊢
  have hS : va_S A s.heap H [] := by rw [hH]; exact va_S.rf
  clear hH
  replace hP : va_P D vwCl [(a_t, .inr (10, [w_t_thrown, .ref a_t_s, w_t_image, w_t_hasImage, w_t_act, w_t_spot, w_t_end, w_t_isWrong, w_t_open, w_t_readMany, w_t_readSpan, w_t_readSum, w_t_readOdds, w_t_readBank, w_t_readMill, w_t_readLevel, w_t_levels, w_t_boardsNow, w_t_ways, w_t_nexts, w_t_hourNow, w_t_staying, w_t_leftCard, w_t_leftLine, w_t_isMute, w_t_higher, w_t_over, w_t_dry, w_t_truths, w_t_failHours, w_t_failRow, w_t_keptBoards, w_t_keptHung, .ref a_t_bodies, .int i_t_ran, .int i_t_kind, .int i_t_number, .int i_t_tellsV])), (a_t_s, .inl (cyI, 1454, .inl f_t_s)), (a_t_bodies, .inl (cyI, 20, .inl f_t_bodies))] H := hP
  replace hD : va_D A [(a_t, .inr (10, [w_t_thrown, .ref a_t_s, w_t_image, w_t_hasImage, w_t_act, w_t_spot, w_t_end, w_t_isWrong, w_t_open, w_t_readMany, w_t_readSpan, w_t_readSum, w_t_readOdds, w_t_readBank, w_t_readMill, w_t_readLevel, w_t_levels, w_t_boardsNow, w_t_ways, w_t_nexts, w_t_hourNow, w_t_staying, w_t_leftCard, w_t_leftLine, w_t_isMute, w_t_higher, w_t_over, w_t_dry, w_t_truths, w_t_failHours, w_t_failRow, w_t_keptBoards, w_t_keptHung, .ref a_t_bodies, .int i_t_ran, .int i_t_kind, .int i_t_number, .int i_t_tellsV])), (a_t_s, .inl (cyI, 1454, .inl f_t_s)), (a_t_bodies, .inl (cyI, 20, .inl f_t_bodies))] := hD
  have hl := lv_entry ([.ref a_t, .int x1, .int x2, .int x3]) (n := 4) (Nat.le_of_ble_eq_true rfl)
  rw [lg_entry_eq]
  generalize (lg_sl ([.ref a_t, .int x1, .int x2, .int x3]) ++ List.replicate (4 - (lg_sl ([.ref a_t, .int x1, .int x2, .int x3])).length) Slot.unset).toArray = ls at hl ⊢
  replace hl : lv_has ls 4 [(0, .ref a_t), (1, .int x1), (2, .int x2), (3, .int x3)] := hl
  unfold WX11_act at hw
  refine lv_aload_n hx hb dX11_act_0 rfl (lv_at hl 0 rfl) ?_
  refine lv_iconst (v := 0) hx hb dX11_act_1 (by decide) ?_
  refine va_put (D := D) (ci := 10) (v := .int 0) (ty := .int) (C := RX11) (T := TX11) (N := 38) hx hb hts inX11_act_X11 tyX11 tyX11_ok nmX11 hown hK hP hD hS 0 rfl rfl 34 (by decide) (hts _ (List.mem_of_getElem? (i := 1) rfl)) (fun _ h9 => h9) rfl (tyX11_ok 34 (by decide)) rfl rfl (Nat.le_of_ble_eq_true rfl) dX11_act_2 (fun H locs hP hD hS => ?_)
  replace hP : va_P D vwCl [(a_t, .inr (10, [w_t_thrown, .ref a_t_s, w_t_image, w_t_hasImage, w_t_act, w_t_spot, w_t_end, w_t_isWrong, w_t_open, w_t_readMany, w_t_readSpan, w_t_readSum, w_t_readOdds, w_t_readBank, w_t_readMill, w_t_readLevel, w_t_levels, w_t_boardsNow, w_t_ways, w_t_nexts, w_t_hourNow, w_t_staying, w_t_leftCard, w_t_leftLine, w_t_isMute, w_t_higher, w_t_over, w_t_dry, w_t_truths, w_t_failHours, w_t_failRow, w_t_keptBoards, w_t_keptHung, .ref a_t_bodies, .int 0, .int i_t_kind, .int i_t_number, .int i_t_tellsV])), (a_t_s, .inl (cyI, 1454, .inl f_t_s)), (a_t_bodies, .inl (cyI, 20, .inl f_t_bodies))] H := hP
  replace hD : va_D A [(a_t, .inr (10, [w_t_thrown, .ref a_t_s, w_t_image, w_t_hasImage, w_t_act, w_t_spot, w_t_end, w_t_isWrong, w_t_open, w_t_readMany, w_t_readSpan, w_t_readSum, w_t_readOdds, w_t_readBank, w_t_readMill, w_t_readLevel, w_t_levels, w_t_boardsNow, w_t_ways, w_t_nexts, w_t_hourNow, w_t_staying, w_t_leftCard, w_t_leftLine, w_t_isMute, w_t_higher, w_t_over, w_t_dry, w_t_truths, w_t_failHours, w_t_failRow, w_t_keptBoards, w_t_keptHung, .ref a_t_bodies, .int 0, .int i_t_kind, .int i_t_number, .int i_t_tellsV])), (a_t_s, .inl (cyI, 1454, .inl f_t_s)), (a_t_bodies, .inl (cyI, 20, .inl f_t_bodies))] := hD
  refine lv_aload_n hx hb dX11_act_5 rfl (lv_at hl 0 rfl) ?_
  refine lv_iload_n hx hb dX11_act_6 rfl (lv_at hl 1 rfl) ?_
  obtain ⟨QK, eQ, hq⟩ := genq (P := WX11_isCard x1 f_t_s) hw
  clear hw
  have hPc := hP.sub (ws' := [(a_t, .inr (10, [w_t_thrown, .ref a_t_s, w_t_image, w_t_hasImage, w_t_act, w_t_spot, w_t_end, w_t_isWrong, w_t_open, w_t_readMany, w_t_readSpan, w_t_readSum, w_t_readOdds, w_t_readBank, w_t_readMill, w_t_readLevel, w_t_levels, w_t_boardsNow, w_t_ways, w_t_nexts, w_t_hourNow, w_t_staying, w_t_leftCard, w_t_leftLine, w_t_isMute, w_t_higher, w_t_over, w_t_dry, w_t_truths, w_t_failHours, w_t_failRow, w_t_keptBoards, w_t_keptHung, .ref a_t_bodies, .int 0, .int i_t_kind, .int i_t_number, .int i_t_tellsV])), (a_t_s, .inl (cyI, 1454, .inl f_t_s))]) [0, 1] rfl
  have hDc := hD.sub (ws' := [(a_t, .inr (10, [w_t_thrown, .ref a_t_s, w_t_image, w_t_hasImage, w_t_act, w_t_spot, w_t_end, w_t_isWrong, w_t_open, w_t_readMany, w_t_readSpan, w_t_readSum, w_t_readOdds, w_t_readBank, w_t_readMill, w_t_readLevel, w_t_levels, w_t_boardsNow, w_t_ways, w_t_nexts, w_t_hourNow, w_t_staying, w_t_leftCard, w_t_leftLine, w_t_isMute, w_t_higher, w_t_over, w_t_dry, w_t_truths, w_t_failHours, w_t_failRow, w_t_keptBoards, w_t_keptHung, .ref a_t_bodies, .int 0, .int i_t_kind, .int i_t_number, .int i_t_tellsV])), (a_t_s, .inl (cyI, 1454, .inl f_t_s))]) [0, 1] (by decide) rfl
  have hFc := va_free (wc := [(a_t, .inr (10, [w_t_thrown, .ref a_t_s, w_t_image, w_t_hasImage, w_t_act, w_t_spot, w_t_end, w_t_isWrong, w_t_open, w_t_readMany, w_t_readSpan, w_t_readSum, w_t_readOdds, w_t_readBank, w_t_readMill, w_t_readLevel, w_t_levels, w_t_boardsNow, w_t_ways, w_t_nexts, w_t_hourNow, w_t_staying, w_t_leftCard, w_t_leftLine, w_t_isMute, w_t_higher, w_t_over, w_t_dry, w_t_truths, w_t_failHours, w_t_failRow, w_t_keptBoards, w_t_keptHung, .ref a_t_bodies, .int 0, .int i_t_kind, .int i_t_number, .int i_t_tellsV])), (a_t_s, .inl (cyI, 1454, .inl f_t_s))]) hD hS hA [0, 1] rfl
  refine va_calli (va_runV (As := [.int x1]) (rest := []) ⟨hx, hb, hml, hown, hts⟩ (MX11_isCard l D cyI cyZ cyC ro ce cin ad a_t a_t_s  (w_t_thrown) (w_t_image) (w_t_hasImage) (w_t_act) (w_t_spot) (w_t_end) (w_t_isWrong) (w_t_open) (w_t_readMany) (w_t_readSpan) (w_t_readSum) (w_t_readOdds) (w_t_readBank) (w_t_readMill) (w_t_readLevel) (w_t_levels) (w_t_boardsNow) (w_t_ways) (w_t_nexts) (w_t_hourNow) (w_t_staying) (w_t_leftCard) (w_t_leftLine) (w_t_isMute) (w_t_higher) (w_t_over) (w_t_dry) (w_t_truths) (w_t_failHours) (w_t_failRow) (w_t_keptBoards) (w_t_keptHung) (.ref a_t_bodies) (.int 0) (.int i_t_kind) (.int i_t_number) (.int i_t_tellsV) H.size x1 f_t_s QK  hq) (cwV 1 hts gX11_act_X11_isCard rfl rfl rfl ⟨rfl, dmX11_isCard⟩ ⟨Nat.le_of_ble_eq_true rfl, Nat.le_of_ble_eq_true rfl⟩) ⟨pre_bl, va_recv hK hPc (ci := 10) (q0 := 0) rfl rfl, fun U hU hW => ⟨rfl, pre_of hX hS hK hPc hDc hFc hU hW⟩⟩ rfl rfl hl.1 rfl (lv_room (Nat.le_of_ble_eq_true rfl)) dX11_act_7 ⟨Nat.zero_le _, Nat.zero_le _⟩) hS (fun q _ h => hFc q h) hFc (fun r1 u t H1 locs ht hvm hw hB hz1 hk1 hS => ?_)
  replace hw : QK r1 := hw
  clear hq
  subst eQ
  obtain ⟨hP1, hD1⟩ := hB
  rw [ht] at hP1
  obtain ⟨hP, hD⟩ := va_join (wr := [(a_t_bodies, .inl (cyI, 20, .inl f_t_bodies))]) (w1 := [(a_t, .inr (10, [w_t_thrown, .ref a_t_s, w_t_image, w_t_hasImage, w_t_act, w_t_spot, w_t_end, w_t_isWrong, w_t_open, w_t_readMany, w_t_readSpan, w_t_readSum, w_t_readOdds, w_t_readBank, w_t_readMill, w_t_readLevel, w_t_levels, w_t_boardsNow, w_t_ways, w_t_nexts, w_t_hourNow, w_t_staying, w_t_leftCard, w_t_leftLine, w_t_isMute, w_t_higher, w_t_over, w_t_dry, w_t_truths, w_t_failHours, w_t_failRow, w_t_keptBoards, w_t_keptHung, .ref a_t_bodies, .int 0, .int i_t_kind, .int i_t_number, .int i_t_tellsV])), (a_t_s, .inl (cyI, 1454, .inl f_t_s))]) hP hD [0, 1] [2] rfl rfl (by decide) (by decide) hk1 hFc hP1 hD1
  clear hPc hDc hFc hk1 hz1 hP1 hD1 ht hvm
  generalize H1 = H at hP hS ⊢
  replace hP : va_P D vwCl [(a_t_bodies, .inl (cyI, 20, .inl f_t_bodies)), (a_t, .inr (10, [w_t_thrown, .ref a_t_s, w_t_image, w_t_hasImage, w_t_act, w_t_spot, w_t_end, w_t_isWrong, w_t_open, w_t_readMany, w_t_readSpan, w_t_readSum, w_t_readOdds, w_t_readBank, w_t_readMill, w_t_readLevel, w_t_levels, w_t_boardsNow, w_t_ways, w_t_nexts, w_t_hourNow, w_t_staying, w_t_leftCard, w_t_leftLine, w_t_isMute, w_t_higher, w_t_over, w_t_dry, w_t_truths, w_t_failHours, w_t_failRow, w_t_keptBoards, w_t_keptHung, .ref a_t_bodies, .int 0, .int i_t_kind, .int i_t_number, .int i_t_tellsV])), (a_t_s, .inl (cyI, 1454, .inl f_t_s))] H := hP
  replace hD : va_D A [(a_t_bodies, .inl (cyI, 20, .inl f_t_bodies)), (a_t, .inr (10, [w_t_thrown, .ref a_t_s, w_t_image, w_t_hasImage, w_t_act, w_t_spot, w_t_end, w_t_isWrong, w_t_open, w_t_readMany, w_t_readSpan, w_t_readSum, w_t_readOdds, w_t_readBank, w_t_readMill, w_t_readLevel, w_t_levels, w_t_boardsNow, w_t_ways, w_t_nexts, w_t_hourNow, w_t_staying, w_t_leftCard, w_t_leftLine, w_t_isMute, w_t_higher, w_t_over, w_t_dry, w_t_truths, w_t_failHours, w_t_failRow, w_t_keptBoards, w_t_keptHung, .ref a_t_bodies, .int 0, .int i_t_kind, .int i_t_number, .int i_t_tellsV])), (a_t_s, .inl (cyI, 1454, .inl f_t_s))] := hD
  refine lv_if_eq (tgt := 22) hx hb dX11_act_10 (by decide) (fun c2 => ?_) (fun c2 => ?_)
  · replace hw := hw.1 c2
    refine lv_iconst (v := 0) hx hb dX11_act_22 (by decide) ?_
    have hPj := hP.sub (ws' := [(a_t, .inr (10, [w_t_thrown, .ref a_t_s, w_t_image, w_t_hasImage, w_t_act, w_t_spot, w_t_end, w_t_isWrong, w_t_open, w_t_readMany, w_t_readSpan, w_t_readSum, w_t_readOdds, w_t_readBank, w_t_readMill, w_t_readLevel, w_t_levels, w_t_boardsNow, w_t_ways, w_t_nexts, w_t_hourNow, w_t_staying, w_t_leftCard, w_t_leftLine, w_t_isMute, w_t_higher, w_t_over, w_t_dry, w_t_truths, w_t_failHours, w_t_failRow, w_t_keptBoards, w_t_keptHung, .ref a_t_bodies, .int 0, .int i_t_kind, .int i_t_number, .int i_t_tellsV])), (a_t_s, .inl (cyI, 1454, .inl f_t_s)), (a_t_bodies, .inl (cyI, 20, .inl f_t_bodies))]) [1, 2, 0] rfl
    have hDj := hD.sub (ws' := [(a_t, .inr (10, [w_t_thrown, .ref a_t_s, w_t_image, w_t_hasImage, w_t_act, w_t_spot, w_t_end, w_t_isWrong, w_t_open, w_t_readMany, w_t_readSpan, w_t_readSum, w_t_readOdds, w_t_readBank, w_t_readMill, w_t_readLevel, w_t_levels, w_t_boardsNow, w_t_ways, w_t_nexts, w_t_hourNow, w_t_staying, w_t_leftCard, w_t_leftLine, w_t_isMute, w_t_higher, w_t_over, w_t_dry, w_t_truths, w_t_failHours, w_t_failRow, w_t_keptBoards, w_t_keptHung, .ref a_t_bodies, .int 0, .int i_t_kind, .int i_t_number, .int i_t_tellsV])), (a_t_s, .inl (cyI, 1454, .inl f_t_s)), (a_t_bodies, .inl (cyI, 20, .inl f_t_bodies))]) [1, 2, 0] (by decide) rfl
    exact W.iret (v := 0) hx hb hr (fun t ht hW => ⟨⟨0, (0, i_t_kind, i_t_number, i_t_tellsV, f_t_bodies), rfl, hw, post_mk ht hPj hDj⟩, hS.F ht⟩) hS.2.2 dX11_act_23 hlocks
  · replace hw := hw.2 c2
    refine lv_iload_n hx hb dX11_act_13 rfl (lv_at hl 2 rfl) ?_
    refine lv_iconst (v := 0) hx hb dX11_act_14 (by decide) ?_
    refine lv_iconst (v := 2) hx hb dX11_act_15 (by decide) ?_
    obtain ⟨QK, eQ, hq⟩ := genq (P := WX11_in x2 0 2) hw
    clear hw
    have hPc := hP.sub (ws' := []) [] rfl
    have hDc := hD.sub (ws' := []) [] (by decide) rfl
    have hFc := va_free (wc := []) hD hS hA [] rfl
    refine va_calli (va_runS (As := [.int x2, .int 0, .int 2]) (rest := []) ⟨hx, hb, hml, hown, hts⟩ (MX11_in l D cyI cyZ cyC ro ce cin ad    H.size x2 0 2 QK  hq) (va_cwS 3 hts gX11_act_X11_in rfl rfl rfl dmX11_in ⟨Nat.le_of_ble_eq_true rfl, Nat.le_of_ble_eq_true rfl⟩) ⟨pre_bl, fun U hU hW => ⟨rfl, pre_of hX hS hK hPc hDc hFc hU hW⟩⟩ rfl rfl hl.1 rfl (lv_room (Nat.le_of_ble_eq_true rfl)) dX11_act_16 ⟨Nat.zero_le _, Nat.zero_le _⟩) hS (fun q _ h => hFc q h) hFc (fun r3 u t H1 locs ht hvm hw hB hz1 hk1 hS => ?_)
    replace hw : QK r3 := hw
    clear hq
    subst eQ
    obtain ⟨hP1, hD1⟩ := hB
    rw [ht] at hP1
    obtain ⟨hP, hD⟩ := va_join (wr := [(a_t_bodies, .inl (cyI, 20, .inl f_t_bodies)), (a_t, .inr (10, [w_t_thrown, .ref a_t_s, w_t_image, w_t_hasImage, w_t_act, w_t_spot, w_t_end, w_t_isWrong, w_t_open, w_t_readMany, w_t_readSpan, w_t_readSum, w_t_readOdds, w_t_readBank, w_t_readMill, w_t_readLevel, w_t_levels, w_t_boardsNow, w_t_ways, w_t_nexts, w_t_hourNow, w_t_staying, w_t_leftCard, w_t_leftLine, w_t_isMute, w_t_higher, w_t_over, w_t_dry, w_t_truths, w_t_failHours, w_t_failRow, w_t_keptBoards, w_t_keptHung, .ref a_t_bodies, .int 0, .int i_t_kind, .int i_t_number, .int i_t_tellsV])), (a_t_s, .inl (cyI, 1454, .inl f_t_s))]) (w1 := []) hP hD [] [0, 1, 2] rfl rfl (by decide) (by decide) hk1 hFc hP1 hD1
    clear hPc hDc hFc hk1 hz1 hP1 hD1 ht hvm
    generalize H1 = H at hP hS ⊢
    replace hP : va_P D vwCl [(a_t_bodies, .inl (cyI, 20, .inl f_t_bodies)), (a_t, .inr (10, [w_t_thrown, .ref a_t_s, w_t_image, w_t_hasImage, w_t_act, w_t_spot, w_t_end, w_t_isWrong, w_t_open, w_t_readMany, w_t_readSpan, w_t_readSum, w_t_readOdds, w_t_readBank, w_t_readMill, w_t_readLevel, w_t_levels, w_t_boardsNow, w_t_ways, w_t_nexts, w_t_hourNow, w_t_staying, w_t_leftCard, w_t_leftLine, w_t_isMute, w_t_higher, w_t_over, w_t_dry, w_t_truths, w_t_failHours, w_t_failRow, w_t_keptBoards, w_t_keptHung, .ref a_t_bodies, .int 0, .int i_t_kind, .int i_t_number, .int i_t_tellsV])), (a_t_s, .inl (cyI, 1454, .inl f_t_s))] H := hP
    replace hD : va_D A [(a_t_bodies, .inl (cyI, 20, .inl f_t_bodies)), (a_t, .inr (10, [w_t_thrown, .ref a_t_s, w_t_image, w_t_hasImage, w_t_act, w_t_spot, w_t_end, w_t_isWrong, w_t_open, w_t_readMany, w_t_readSpan, w_t_readSum, w_t_readOdds, w_t_readBank, w_t_readMill, w_t_readLevel, w_t_levels, w_t_boardsNow, w_t_ways, w_t_nexts, w_t_hourNow, w_t_staying, w_t_leftCard, w_t_leftLine, w_t_isMute, w_t_higher, w_t_over, w_t_dry, w_t_truths, w_t_failHours, w_t_failRow, w_t_keptBoards, w_t_keptHung, .ref a_t_bodies, .int 0, .int i_t_kind, .int i_t_number, .int i_t_tellsV])), (a_t_s, .inl (cyI, 1454, .inl f_t_s))] := hD
    refine lv_if_ne (tgt := 24) hx hb dX11_act_19 (by decide) (fun c4 => ?_) (fun c4 => ?_)
    · replace hw := hw.2 c4
      refine lv_aload_n hx hb dX11_act_24 rfl (lv_at hl 0 rfl) ?_
      refine lv_aload_n hx hb dX11_act_25 rfl (lv_at hl 0 rfl) ?_
      refine va_get (D := D) (ci := 10) (v := .ref a_t_s) (C := RX11) (T := TX11) (N := 38) hx hb hts inX11_act_X11 hown hK hP 1 rfl rfl 1 (by decide) (hts _ (List.mem_of_getElem? (i := 2) rfl)) (fun _ h9 => h9) rfl dX11_act_26 ?_
      refine lv_sipush (v := 158) hx hb dX11_act_29 (by decide) ?_
      refine lv_iload_n hx hb dX11_act_32 rfl (lv_at hl 1 rfl) ?_
      refine lv_iadd hx hb dX11_act_33 ?_
      have h5 := hw.1
      replace hw := hw.2
      refine va_iald hx hb hK hP 2 0 rfl rfl h5 dX11_act_34 ?_
      refine lv_topi (fun y6 ey6 => ?_)
      replace hw := hw y6 ey6
      refine va_put (D := D) (ci := 10) (v := .int y6) (ty := .int) (C := RX11) (T := TX11) (N := 38) hx hb hts inX11_act_X11 tyX11 tyX11_ok nmX11 hown hK hP hD hS 1 rfl rfl 35 (by decide) (hts _ (List.mem_of_getElem? (i := 3) rfl)) (fun _ h9 => h9) rfl (tyX11_ok 35 (by decide)) rfl rfl (Nat.le_of_ble_eq_true rfl) dX11_act_35 (fun H locs hP hD hS => ?_)
      replace hP : va_P D vwCl [(a_t_bodies, .inl (cyI, 20, .inl f_t_bodies)), (a_t, .inr (10, [w_t_thrown, .ref a_t_s, w_t_image, w_t_hasImage, w_t_act, w_t_spot, w_t_end, w_t_isWrong, w_t_open, w_t_readMany, w_t_readSpan, w_t_readSum, w_t_readOdds, w_t_readBank, w_t_readMill, w_t_readLevel, w_t_levels, w_t_boardsNow, w_t_ways, w_t_nexts, w_t_hourNow, w_t_staying, w_t_leftCard, w_t_leftLine, w_t_isMute, w_t_higher, w_t_over, w_t_dry, w_t_truths, w_t_failHours, w_t_failRow, w_t_keptBoards, w_t_keptHung, .ref a_t_bodies, .int 0, .int y6, .int i_t_number, .int i_t_tellsV])), (a_t_s, .inl (cyI, 1454, .inl f_t_s))] H := hP
      replace hD : va_D A [(a_t_bodies, .inl (cyI, 20, .inl f_t_bodies)), (a_t, .inr (10, [w_t_thrown, .ref a_t_s, w_t_image, w_t_hasImage, w_t_act, w_t_spot, w_t_end, w_t_isWrong, w_t_open, w_t_readMany, w_t_readSpan, w_t_readSum, w_t_readOdds, w_t_readBank, w_t_readMill, w_t_readLevel, w_t_levels, w_t_boardsNow, w_t_ways, w_t_nexts, w_t_hourNow, w_t_staying, w_t_leftCard, w_t_leftLine, w_t_isMute, w_t_higher, w_t_over, w_t_dry, w_t_truths, w_t_failHours, w_t_failRow, w_t_keptBoards, w_t_keptHung, .ref a_t_bodies, .int 0, .int y6, .int i_t_number, .int i_t_tellsV])), (a_t_s, .inl (cyI, 1454, .inl f_t_s))] := hD
      refine lv_aload_n hx hb dX11_act_38 rfl (lv_at hl 0 rfl) ?_
      refine lv_iload_n hx hb dX11_act_39 rfl (lv_at hl 1 rfl) ?_
      refine va_put (D := D) (ci := 10) (v := .int x1) (ty := .int) (C := RX11) (T := TX11) (N := 38) hx hb hts inX11_act_X11 tyX11 tyX11_ok nmX11 hown hK hP hD hS 1 rfl rfl 36 (by decide) (hts _ (List.mem_of_getElem? (i := 4) rfl)) (fun _ h9 => h9) rfl (tyX11_ok 36 (by decide)) rfl rfl (Nat.le_of_ble_eq_true rfl) dX11_act_40 (fun H locs hP hD hS => ?_)
      replace hP : va_P D vwCl [(a_t_bodies, .inl (cyI, 20, .inl f_t_bodies)), (a_t, .inr (10, [w_t_thrown, .ref a_t_s, w_t_image, w_t_hasImage, w_t_act, w_t_spot, w_t_end, w_t_isWrong, w_t_open, w_t_readMany, w_t_readSpan, w_t_readSum, w_t_readOdds, w_t_readBank, w_t_readMill, w_t_readLevel, w_t_levels, w_t_boardsNow, w_t_ways, w_t_nexts, w_t_hourNow, w_t_staying, w_t_leftCard, w_t_leftLine, w_t_isMute, w_t_higher, w_t_over, w_t_dry, w_t_truths, w_t_failHours, w_t_failRow, w_t_keptBoards, w_t_keptHung, .ref a_t_bodies, .int 0, .int y6, .int x1, .int i_t_tellsV])), (a_t_s, .inl (cyI, 1454, .inl f_t_s))] H := hP
      replace hD : va_D A [(a_t_bodies, .inl (cyI, 20, .inl f_t_bodies)), (a_t, .inr (10, [w_t_thrown, .ref a_t_s, w_t_image, w_t_hasImage, w_t_act, w_t_spot, w_t_end, w_t_isWrong, w_t_open, w_t_readMany, w_t_readSpan, w_t_readSum, w_t_readOdds, w_t_readBank, w_t_readMill, w_t_readLevel, w_t_levels, w_t_boardsNow, w_t_ways, w_t_nexts, w_t_hourNow, w_t_staying, w_t_leftCard, w_t_leftLine, w_t_isMute, w_t_higher, w_t_over, w_t_dry, w_t_truths, w_t_failHours, w_t_failRow, w_t_keptBoards, w_t_keptHung, .ref a_t_bodies, .int 0, .int y6, .int x1, .int i_t_tellsV])), (a_t_s, .inl (cyI, 1454, .inl f_t_s))] := hD
      refine lv_aload_n hx hb dX11_act_43 rfl (lv_at hl 0 rfl) ?_
      refine lv_aload_n hx hb dX11_act_44 rfl (lv_at hl 0 rfl) ?_
      refine va_get (D := D) (ci := 10) (v := .ref a_t_s) (C := RX11) (T := TX11) (N := 38) hx hb hts inX11_act_X11 hown hK hP 1 rfl rfl 1 (by decide) (hts _ (List.mem_of_getElem? (i := 2) rfl)) (fun _ h9 => h9) rfl dX11_act_45 ?_
      refine lv_sipush (v := 166) hx hb dX11_act_48 (by decide) ?_
      refine lv_iload_n hx hb dX11_act_51 rfl (lv_at hl 1 rfl) ?_
      refine lv_iadd hx hb dX11_act_52 ?_
      have h7 := hw.1
      replace hw := hw.2
      refine va_iald hx hb hK hP 2 0 rfl rfl h7 dX11_act_53 ?_
      refine lv_topi (fun y8 ey8 => ?_)
      replace hw := hw y8 ey8
      refine va_put (D := D) (ci := 10) (v := .int y8) (ty := .int) (C := RX11) (T := TX11) (N := 38) hx hb hts inX11_act_X11 tyX11 tyX11_ok nmX11 hown hK hP hD hS 1 rfl rfl 37 (by decide) (hts _ (List.mem_of_getElem? (i := 5) rfl)) (fun _ h9 => h9) rfl (tyX11_ok 37 (by decide)) rfl rfl (Nat.le_of_ble_eq_true rfl) dX11_act_54 (fun H locs hP hD hS => ?_)
      replace hP : va_P D vwCl [(a_t_bodies, .inl (cyI, 20, .inl f_t_bodies)), (a_t, .inr (10, [w_t_thrown, .ref a_t_s, w_t_image, w_t_hasImage, w_t_act, w_t_spot, w_t_end, w_t_isWrong, w_t_open, w_t_readMany, w_t_readSpan, w_t_readSum, w_t_readOdds, w_t_readBank, w_t_readMill, w_t_readLevel, w_t_levels, w_t_boardsNow, w_t_ways, w_t_nexts, w_t_hourNow, w_t_staying, w_t_leftCard, w_t_leftLine, w_t_isMute, w_t_higher, w_t_over, w_t_dry, w_t_truths, w_t_failHours, w_t_failRow, w_t_keptBoards, w_t_keptHung, .ref a_t_bodies, .int 0, .int y6, .int x1, .int y8])), (a_t_s, .inl (cyI, 1454, .inl f_t_s))] H := hP
      replace hD : va_D A [(a_t_bodies, .inl (cyI, 20, .inl f_t_bodies)), (a_t, .inr (10, [w_t_thrown, .ref a_t_s, w_t_image, w_t_hasImage, w_t_act, w_t_spot, w_t_end, w_t_isWrong, w_t_open, w_t_readMany, w_t_readSpan, w_t_readSum, w_t_readOdds, w_t_readBank, w_t_readMill, w_t_readLevel, w_t_levels, w_t_boardsNow, w_t_ways, w_t_nexts, w_t_hourNow, w_t_staying, w_t_leftCard, w_t_leftLine, w_t_isMute, w_t_higher, w_t_over, w_t_dry, w_t_truths, w_t_failHours, w_t_failRow, w_t_keptBoards, w_t_keptHung, .ref a_t_bodies, .int 0, .int y6, .int x1, .int y8])), (a_t_s, .inl (cyI, 1454, .inl f_t_s))] := hD
      refine lv_iload_n hx hb dX11_act_57 rfl (lv_at hl 2 rfl) ?_
      refine lv_if_ne (tgt := 69) hx hb dX11_act_58 (by decide) (fun c9 => ?_) (fun c9 => ?_)
      · replace hw := hw.2 c9
        refine lv_iload_n hx hb dX11_act_69 rfl (lv_at hl 2 rfl) ?_
        refine lv_iconst (v := 1) hx hb dX11_act_70 (by decide) ?_
        refine lv_icmp_ne (tgt := 82) hx hb dX11_act_71 (by decide) (fun c10 => ?_) (fun c10 => ?_)
        · replace hw := hw.2 c10
          refine lv_aload_n hx hb dX11_act_82 rfl (lv_at hl 0 rfl) ?_
          refine lv_iload_n hx hb dX11_act_83 rfl (lv_at hl 3 rfl) ?_
          obtain ⟨QK, eQ, hq⟩ := genq (P := WX11_wakesActs x3 0 y6 x1 y8 f_t_bodies) hw
          clear hw
          have hPc := hP.sub (ws' := [(a_t, .inr (10, [w_t_thrown, .ref a_t_s, w_t_image, w_t_hasImage, w_t_act, w_t_spot, w_t_end, w_t_isWrong, w_t_open, w_t_readMany, w_t_readSpan, w_t_readSum, w_t_readOdds, w_t_readBank, w_t_readMill, w_t_readLevel, w_t_levels, w_t_boardsNow, w_t_ways, w_t_nexts, w_t_hourNow, w_t_staying, w_t_leftCard, w_t_leftLine, w_t_isMute, w_t_higher, w_t_over, w_t_dry, w_t_truths, w_t_failHours, w_t_failRow, w_t_keptBoards, w_t_keptHung, .ref a_t_bodies, .int 0, .int y6, .int x1, .int y8])), (a_t_bodies, .inl (cyI, 20, .inl f_t_bodies))]) [1, 0] rfl
          have hDc := hD.sub (ws' := [(a_t, .inr (10, [w_t_thrown, .ref a_t_s, w_t_image, w_t_hasImage, w_t_act, w_t_spot, w_t_end, w_t_isWrong, w_t_open, w_t_readMany, w_t_readSpan, w_t_readSum, w_t_readOdds, w_t_readBank, w_t_readMill, w_t_readLevel, w_t_levels, w_t_boardsNow, w_t_ways, w_t_nexts, w_t_hourNow, w_t_staying, w_t_leftCard, w_t_leftLine, w_t_isMute, w_t_higher, w_t_over, w_t_dry, w_t_truths, w_t_failHours, w_t_failRow, w_t_keptBoards, w_t_keptHung, .ref a_t_bodies, .int 0, .int y6, .int x1, .int y8])), (a_t_bodies, .inl (cyI, 20, .inl f_t_bodies))]) [1, 0] (by decide) rfl
          have hFc := va_free (wc := [(a_t, .inr (10, [w_t_thrown, .ref a_t_s, w_t_image, w_t_hasImage, w_t_act, w_t_spot, w_t_end, w_t_isWrong, w_t_open, w_t_readMany, w_t_readSpan, w_t_readSum, w_t_readOdds, w_t_readBank, w_t_readMill, w_t_readLevel, w_t_levels, w_t_boardsNow, w_t_ways, w_t_nexts, w_t_hourNow, w_t_staying, w_t_leftCard, w_t_leftLine, w_t_isMute, w_t_higher, w_t_over, w_t_dry, w_t_truths, w_t_failHours, w_t_failRow, w_t_keptBoards, w_t_keptHung, .ref a_t_bodies, .int 0, .int y6, .int x1, .int y8])), (a_t_bodies, .inl (cyI, 20, .inl f_t_bodies))]) hD hS hA [1, 0] rfl
          refine va_calli (va_runV (As := [.int x3]) (rest := []) ⟨hx, hb, hml, hown, hts⟩ (MX11_wakesActs l D cyI cyZ cyC ro ce cin ad a_t a_t_bodies  (w_t_thrown) (.ref a_t_s) (w_t_image) (w_t_hasImage) (w_t_act) (w_t_spot) (w_t_end) (w_t_isWrong) (w_t_open) (w_t_readMany) (w_t_readSpan) (w_t_readSum) (w_t_readOdds) (w_t_readBank) (w_t_readMill) (w_t_readLevel) (w_t_levels) (w_t_boardsNow) (w_t_ways) (w_t_nexts) (w_t_hourNow) (w_t_staying) (w_t_leftCard) (w_t_leftLine) (w_t_isMute) (w_t_higher) (w_t_over) (w_t_dry) (w_t_truths) (w_t_failHours) (w_t_failRow) (w_t_keptBoards) (w_t_keptHung) H.size x3 0 y6 x1 y8 f_t_bodies QK  hq) (cwV 1 hts gX11_act_X11_wakesActs rfl rfl rfl ⟨rfl, dmX11_wakesActs⟩ ⟨Nat.le_of_ble_eq_true rfl, Nat.le_of_ble_eq_true rfl⟩) ⟨pre_bl, va_recv hK hPc (ci := 10) (q0 := 0) rfl rfl, fun U hU hW => ⟨rfl, pre_of hX hS hK hPc hDc hFc hU hW⟩⟩ rfl rfl hl.1 rfl (lv_room (Nat.le_of_ble_eq_true rfl)) dX11_act_84 ⟨Nat.zero_le _, Nat.zero_le _⟩) hS (fun q _ h => hFc q h) hFc (fun r11 u t H1 locs ht hvm hw hB hz1 hk1 hS => ?_)
          obtain ⟨i_t_ran_12, f_t_bodies_13⟩ := u
          replace hw : QK r11 i_t_ran_12 f_t_bodies_13 := hw
          clear hq
          subst eQ
          obtain ⟨hP1, hD1⟩ := hB
          rw [ht] at hP1
          obtain ⟨hP, hD⟩ := va_join (wr := [(a_t_s, .inl (cyI, 1454, .inl f_t_s))]) (w1 := [(a_t, .inr (10, [w_t_thrown, .ref a_t_s, w_t_image, w_t_hasImage, w_t_act, w_t_spot, w_t_end, w_t_isWrong, w_t_open, w_t_readMany, w_t_readSpan, w_t_readSum, w_t_readOdds, w_t_readBank, w_t_readMill, w_t_readLevel, w_t_levels, w_t_boardsNow, w_t_ways, w_t_nexts, w_t_hourNow, w_t_staying, w_t_leftCard, w_t_leftLine, w_t_isMute, w_t_higher, w_t_over, w_t_dry, w_t_truths, w_t_failHours, w_t_failRow, w_t_keptBoards, w_t_keptHung, .ref a_t_bodies, .int i_t_ran_12, .int y6, .int x1, .int y8])), (a_t_bodies, .inl (cyI, 20, .inl f_t_bodies_13))]) hP hD [1, 0] [2] rfl rfl (by decide) (by decide) hk1 hFc hP1 hD1
          clear hPc hDc hFc hk1 hz1 hP1 hD1 ht hvm
          generalize H1 = H at hP hS ⊢
          replace hP : va_P D vwCl [(a_t_s, .inl (cyI, 1454, .inl f_t_s)), (a_t, .inr (10, [w_t_thrown, .ref a_t_s, w_t_image, w_t_hasImage, w_t_act, w_t_spot, w_t_end, w_t_isWrong, w_t_open, w_t_readMany, w_t_readSpan, w_t_readSum, w_t_readOdds, w_t_readBank, w_t_readMill, w_t_readLevel, w_t_levels, w_t_boardsNow, w_t_ways, w_t_nexts, w_t_hourNow, w_t_staying, w_t_leftCard, w_t_leftLine, w_t_isMute, w_t_higher, w_t_over, w_t_dry, w_t_truths, w_t_failHours, w_t_failRow, w_t_keptBoards, w_t_keptHung, .ref a_t_bodies, .int i_t_ran_12, .int y6, .int x1, .int y8])), (a_t_bodies, .inl (cyI, 20, .inl f_t_bodies_13))] H := hP
          replace hD : va_D A [(a_t_s, .inl (cyI, 1454, .inl f_t_s)), (a_t, .inr (10, [w_t_thrown, .ref a_t_s, w_t_image, w_t_hasImage, w_t_act, w_t_spot, w_t_end, w_t_isWrong, w_t_open, w_t_readMany, w_t_readSpan, w_t_readSum, w_t_readOdds, w_t_readBank, w_t_readMill, w_t_readLevel, w_t_levels, w_t_boardsNow, w_t_ways, w_t_nexts, w_t_hourNow, w_t_staying, w_t_leftCard, w_t_leftLine, w_t_isMute, w_t_higher, w_t_over, w_t_dry, w_t_truths, w_t_failHours, w_t_failRow, w_t_keptBoards, w_t_keptHung, .ref a_t_bodies, .int i_t_ran_12, .int y6, .int x1, .int y8])), (a_t_bodies, .inl (cyI, 20, .inl f_t_bodies_13))] := hD
          have hPj := hP.sub (ws' := [(a_t, .inr (10, [w_t_thrown, .ref a_t_s, w_t_image, w_t_hasImage, w_t_act, w_t_spot, w_t_end, w_t_isWrong, w_t_open, w_t_readMany, w_t_readSpan, w_t_readSum, w_t_readOdds, w_t_readBank, w_t_readMill, w_t_readLevel, w_t_levels, w_t_boardsNow, w_t_ways, w_t_nexts, w_t_hourNow, w_t_staying, w_t_leftCard, w_t_leftLine, w_t_isMute, w_t_higher, w_t_over, w_t_dry, w_t_truths, w_t_failHours, w_t_failRow, w_t_keptBoards, w_t_keptHung, .ref a_t_bodies, .int i_t_ran_12, .int y6, .int x1, .int y8])), (a_t_s, .inl (cyI, 1454, .inl f_t_s)), (a_t_bodies, .inl (cyI, 20, .inl f_t_bodies_13))]) [1, 0, 2] rfl
          have hDj := hD.sub (ws' := [(a_t, .inr (10, [w_t_thrown, .ref a_t_s, w_t_image, w_t_hasImage, w_t_act, w_t_spot, w_t_end, w_t_isWrong, w_t_open, w_t_readMany, w_t_readSpan, w_t_readSum, w_t_readOdds, w_t_readBank, w_t_readMill, w_t_readLevel, w_t_levels, w_t_boardsNow, w_t_ways, w_t_nexts, w_t_hourNow, w_t_staying, w_t_leftCard, w_t_leftLine, w_t_isMute, w_t_higher, w_t_over, w_t_dry, w_t_truths, w_t_failHours, w_t_failRow, w_t_keptBoards, w_t_keptHung, .ref a_t_bodies, .int i_t_ran_12, .int y6, .int x1, .int y8])), (a_t_s, .inl (cyI, 1454, .inl f_t_s)), (a_t_bodies, .inl (cyI, 20, .inl f_t_bodies_13))]) [1, 0, 2] (by decide) rfl
          exact W.iret (v := r11) hx hb hr (fun t ht hW => ⟨⟨r11, (i_t_ran_12, y6, x1, y8, f_t_bodies_13), rfl, hw, post_mk ht hPj hDj⟩, hS.F ht⟩) hS.2.2 dX11_act_87 hlocks
        · replace hw := hw.1 c10
          refine lv_aload_n hx hb dX11_act_74 rfl (lv_at hl 0 rfl) ?_
          refine lv_iload_n hx hb dX11_act_75 rfl (lv_at hl 3 rfl) ?_
          obtain ⟨QK, eQ, hq⟩ := genq (P := WX11_setsActs x3 0 y6 x1 y8 f_t_bodies) hw
          clear hw
          have hPc := hP.sub (ws' := [(a_t, .inr (10, [w_t_thrown, .ref a_t_s, w_t_image, w_t_hasImage, w_t_act, w_t_spot, w_t_end, w_t_isWrong, w_t_open, w_t_readMany, w_t_readSpan, w_t_readSum, w_t_readOdds, w_t_readBank, w_t_readMill, w_t_readLevel, w_t_levels, w_t_boardsNow, w_t_ways, w_t_nexts, w_t_hourNow, w_t_staying, w_t_leftCard, w_t_leftLine, w_t_isMute, w_t_higher, w_t_over, w_t_dry, w_t_truths, w_t_failHours, w_t_failRow, w_t_keptBoards, w_t_keptHung, .ref a_t_bodies, .int 0, .int y6, .int x1, .int y8])), (a_t_bodies, .inl (cyI, 20, .inl f_t_bodies))]) [1, 0] rfl
          have hDc := hD.sub (ws' := [(a_t, .inr (10, [w_t_thrown, .ref a_t_s, w_t_image, w_t_hasImage, w_t_act, w_t_spot, w_t_end, w_t_isWrong, w_t_open, w_t_readMany, w_t_readSpan, w_t_readSum, w_t_readOdds, w_t_readBank, w_t_readMill, w_t_readLevel, w_t_levels, w_t_boardsNow, w_t_ways, w_t_nexts, w_t_hourNow, w_t_staying, w_t_leftCard, w_t_leftLine, w_t_isMute, w_t_higher, w_t_over, w_t_dry, w_t_truths, w_t_failHours, w_t_failRow, w_t_keptBoards, w_t_keptHung, .ref a_t_bodies, .int 0, .int y6, .int x1, .int y8])), (a_t_bodies, .inl (cyI, 20, .inl f_t_bodies))]) [1, 0] (by decide) rfl
          have hFc := va_free (wc := [(a_t, .inr (10, [w_t_thrown, .ref a_t_s, w_t_image, w_t_hasImage, w_t_act, w_t_spot, w_t_end, w_t_isWrong, w_t_open, w_t_readMany, w_t_readSpan, w_t_readSum, w_t_readOdds, w_t_readBank, w_t_readMill, w_t_readLevel, w_t_levels, w_t_boardsNow, w_t_ways, w_t_nexts, w_t_hourNow, w_t_staying, w_t_leftCard, w_t_leftLine, w_t_isMute, w_t_higher, w_t_over, w_t_dry, w_t_truths, w_t_failHours, w_t_failRow, w_t_keptBoards, w_t_keptHung, .ref a_t_bodies, .int 0, .int y6, .int x1, .int y8])), (a_t_bodies, .inl (cyI, 20, .inl f_t_bodies))]) hD hS hA [1, 0] rfl
          refine va_calli (va_runV (As := [.int x3]) (rest := []) ⟨hx, hb, hml, hown, hts⟩ (MX11_setsActs l D cyI cyZ cyC ro ce cin ad a_t a_t_bodies  (w_t_thrown) (.ref a_t_s) (w_t_image) (w_t_hasImage) (w_t_act) (w_t_spot) (w_t_end) (w_t_isWrong) (w_t_open) (w_t_readMany) (w_t_readSpan) (w_t_readSum) (w_t_readOdds) (w_t_readBank) (w_t_readMill) (w_t_readLevel) (w_t_levels) (w_t_boardsNow) (w_t_ways) (w_t_nexts) (w_t_hourNow) (w_t_staying) (w_t_leftCard) (w_t_leftLine) (w_t_isMute) (w_t_higher) (w_t_over) (w_t_dry) (w_t_truths) (w_t_failHours) (w_t_failRow) (w_t_keptBoards) (w_t_keptHung) H.size x3 0 y6 x1 y8 f_t_bodies QK  hq) (cwV 1 hts gX11_act_X11_setsActs rfl rfl rfl ⟨rfl, dmX11_setsActs⟩ ⟨Nat.le_of_ble_eq_true rfl, Nat.le_of_ble_eq_true rfl⟩) ⟨pre_bl, va_recv hK hPc (ci := 10) (q0 := 0) rfl rfl, fun U hU hW => ⟨rfl, pre_of hX hS hK hPc hDc hFc hU hW⟩⟩ rfl rfl hl.1 rfl (lv_room (Nat.le_of_ble_eq_true rfl)) dX11_act_76 ⟨Nat.zero_le _, Nat.zero_le _⟩) hS (fun q _ h => hFc q h) hFc (fun r14 u t H1 locs ht hvm hw hB hz1 hk1 hS => ?_)
          obtain ⟨i_t_ran_15, f_t_bodies_16⟩ := u
          replace hw : QK r14 i_t_ran_15 f_t_bodies_16 := hw
          clear hq
          subst eQ
          obtain ⟨hP1, hD1⟩ := hB
          rw [ht] at hP1
          obtain ⟨hP, hD⟩ := va_join (wr := [(a_t_s, .inl (cyI, 1454, .inl f_t_s))]) (w1 := [(a_t, .inr (10, [w_t_thrown, .ref a_t_s, w_t_image, w_t_hasImage, w_t_act, w_t_spot, w_t_end, w_t_isWrong, w_t_open, w_t_readMany, w_t_readSpan, w_t_readSum, w_t_readOdds, w_t_readBank, w_t_readMill, w_t_readLevel, w_t_levels, w_t_boardsNow, w_t_ways, w_t_nexts, w_t_hourNow, w_t_staying, w_t_leftCard, w_t_leftLine, w_t_isMute, w_t_higher, w_t_over, w_t_dry, w_t_truths, w_t_failHours, w_t_failRow, w_t_keptBoards, w_t_keptHung, .ref a_t_bodies, .int i_t_ran_15, .int y6, .int x1, .int y8])), (a_t_bodies, .inl (cyI, 20, .inl f_t_bodies_16))]) hP hD [1, 0] [2] rfl rfl (by decide) (by decide) hk1 hFc hP1 hD1
          clear hPc hDc hFc hk1 hz1 hP1 hD1 ht hvm
          generalize H1 = H at hP hS ⊢
          replace hP : va_P D vwCl [(a_t_s, .inl (cyI, 1454, .inl f_t_s)), (a_t, .inr (10, [w_t_thrown, .ref a_t_s, w_t_image, w_t_hasImage, w_t_act, w_t_spot, w_t_end, w_t_isWrong, w_t_open, w_t_readMany, w_t_readSpan, w_t_readSum, w_t_readOdds, w_t_readBank, w_t_readMill, w_t_readLevel, w_t_levels, w_t_boardsNow, w_t_ways, w_t_nexts, w_t_hourNow, w_t_staying, w_t_leftCard, w_t_leftLine, w_t_isMute, w_t_higher, w_t_over, w_t_dry, w_t_truths, w_t_failHours, w_t_failRow, w_t_keptBoards, w_t_keptHung, .ref a_t_bodies, .int i_t_ran_15, .int y6, .int x1, .int y8])), (a_t_bodies, .inl (cyI, 20, .inl f_t_bodies_16))] H := hP
          replace hD : va_D A [(a_t_s, .inl (cyI, 1454, .inl f_t_s)), (a_t, .inr (10, [w_t_thrown, .ref a_t_s, w_t_image, w_t_hasImage, w_t_act, w_t_spot, w_t_end, w_t_isWrong, w_t_open, w_t_readMany, w_t_readSpan, w_t_readSum, w_t_readOdds, w_t_readBank, w_t_readMill, w_t_readLevel, w_t_levels, w_t_boardsNow, w_t_ways, w_t_nexts, w_t_hourNow, w_t_staying, w_t_leftCard, w_t_leftLine, w_t_isMute, w_t_higher, w_t_over, w_t_dry, w_t_truths, w_t_failHours, w_t_failRow, w_t_keptBoards, w_t_keptHung, .ref a_t_bodies, .int i_t_ran_15, .int y6, .int x1, .int y8])), (a_t_bodies, .inl (cyI, 20, .inl f_t_bodies_16))] := hD
          refine lv_goto (tgt := 87) hx hb dX11_act_79 (by decide) ?_
          have hPj := hP.sub (ws' := [(a_t, .inr (10, [w_t_thrown, .ref a_t_s, w_t_image, w_t_hasImage, w_t_act, w_t_spot, w_t_end, w_t_isWrong, w_t_open, w_t_readMany, w_t_readSpan, w_t_readSum, w_t_readOdds, w_t_readBank, w_t_readMill, w_t_readLevel, w_t_levels, w_t_boardsNow, w_t_ways, w_t_nexts, w_t_hourNow, w_t_staying, w_t_leftCard, w_t_leftLine, w_t_isMute, w_t_higher, w_t_over, w_t_dry, w_t_truths, w_t_failHours, w_t_failRow, w_t_keptBoards, w_t_keptHung, .ref a_t_bodies, .int i_t_ran_15, .int y6, .int x1, .int y8])), (a_t_s, .inl (cyI, 1454, .inl f_t_s)), (a_t_bodies, .inl (cyI, 20, .inl f_t_bodies_16))]) [1, 0, 2] rfl
          have hDj := hD.sub (ws' := [(a_t, .inr (10, [w_t_thrown, .ref a_t_s, w_t_image, w_t_hasImage, w_t_act, w_t_spot, w_t_end, w_t_isWrong, w_t_open, w_t_readMany, w_t_readSpan, w_t_readSum, w_t_readOdds, w_t_readBank, w_t_readMill, w_t_readLevel, w_t_levels, w_t_boardsNow, w_t_ways, w_t_nexts, w_t_hourNow, w_t_staying, w_t_leftCard, w_t_leftLine, w_t_isMute, w_t_higher, w_t_over, w_t_dry, w_t_truths, w_t_failHours, w_t_failRow, w_t_keptBoards, w_t_keptHung, .ref a_t_bodies, .int i_t_ran_15, .int y6, .int x1, .int y8])), (a_t_s, .inl (cyI, 1454, .inl f_t_s)), (a_t_bodies, .inl (cyI, 20, .inl f_t_bodies_16))]) [1, 0, 2] (by decide) rfl
          exact W.iret (v := r14) hx hb hr (fun t ht hW => ⟨⟨r14, (i_t_ran_15, y6, x1, y8, f_t_bodies_16), rfl, hw, post_mk ht hPj hDj⟩, hS.F ht⟩) hS.2.2 dX11_act_87 hlocks
      · replace hw := hw.1 c9
        refine lv_aload_n hx hb dX11_act_61 rfl (lv_at hl 0 rfl) ?_
        refine lv_iload_n hx hb dX11_act_62 rfl (lv_at hl 3 rfl) ?_
        obtain ⟨QK, eQ, hq⟩ := genq (P := WX11_seesActs x3 0 y6 x1 f_t_bodies) hw
        clear hw
        have hPc := hP.sub (ws' := [(a_t, .inr (10, [w_t_thrown, .ref a_t_s, w_t_image, w_t_hasImage, w_t_act, w_t_spot, w_t_end, w_t_isWrong, w_t_open, w_t_readMany, w_t_readSpan, w_t_readSum, w_t_readOdds, w_t_readBank, w_t_readMill, w_t_readLevel, w_t_levels, w_t_boardsNow, w_t_ways, w_t_nexts, w_t_hourNow, w_t_staying, w_t_leftCard, w_t_leftLine, w_t_isMute, w_t_higher, w_t_over, w_t_dry, w_t_truths, w_t_failHours, w_t_failRow, w_t_keptBoards, w_t_keptHung, .ref a_t_bodies, .int 0, .int y6, .int x1, .int y8])), (a_t_bodies, .inl (cyI, 20, .inl f_t_bodies))]) [1, 0] rfl
        have hDc := hD.sub (ws' := [(a_t, .inr (10, [w_t_thrown, .ref a_t_s, w_t_image, w_t_hasImage, w_t_act, w_t_spot, w_t_end, w_t_isWrong, w_t_open, w_t_readMany, w_t_readSpan, w_t_readSum, w_t_readOdds, w_t_readBank, w_t_readMill, w_t_readLevel, w_t_levels, w_t_boardsNow, w_t_ways, w_t_nexts, w_t_hourNow, w_t_staying, w_t_leftCard, w_t_leftLine, w_t_isMute, w_t_higher, w_t_over, w_t_dry, w_t_truths, w_t_failHours, w_t_failRow, w_t_keptBoards, w_t_keptHung, .ref a_t_bodies, .int 0, .int y6, .int x1, .int y8])), (a_t_bodies, .inl (cyI, 20, .inl f_t_bodies))]) [1, 0] (by decide) rfl
        have hFc := va_free (wc := [(a_t, .inr (10, [w_t_thrown, .ref a_t_s, w_t_image, w_t_hasImage, w_t_act, w_t_spot, w_t_end, w_t_isWrong, w_t_open, w_t_readMany, w_t_readSpan, w_t_readSum, w_t_readOdds, w_t_readBank, w_t_readMill, w_t_readLevel, w_t_levels, w_t_boardsNow, w_t_ways, w_t_nexts, w_t_hourNow, w_t_staying, w_t_leftCard, w_t_leftLine, w_t_isMute, w_t_higher, w_t_over, w_t_dry, w_t_truths, w_t_failHours, w_t_failRow, w_t_keptBoards, w_t_keptHung, .ref a_t_bodies, .int 0, .int y6, .int x1, .int y8])), (a_t_bodies, .inl (cyI, 20, .inl f_t_bodies))]) hD hS hA [1, 0] rfl
        refine va_calli (va_runV (As := [.int x3]) (rest := []) ⟨hx, hb, hml, hown, hts⟩ (MX11_seesActs l D cyI cyZ cyC ro ce cin ad a_t a_t_bodies  (w_t_thrown) (.ref a_t_s) (w_t_image) (w_t_hasImage) (w_t_act) (w_t_spot) (w_t_end) (w_t_isWrong) (w_t_open) (w_t_readMany) (w_t_readSpan) (w_t_readSum) (w_t_readOdds) (w_t_readBank) (w_t_readMill) (w_t_readLevel) (w_t_levels) (w_t_boardsNow) (w_t_ways) (w_t_nexts) (w_t_hourNow) (w_t_staying) (w_t_leftCard) (w_t_leftLine) (w_t_isMute) (w_t_higher) (w_t_over) (w_t_dry) (w_t_truths) (w_t_failHours) (w_t_failRow) (w_t_keptBoards) (w_t_keptHung) (.int y8) H.size x3 0 y6 x1 f_t_bodies QK  hq) (cwV 1 hts gX11_act_X11_seesActs rfl rfl rfl ⟨rfl, dmX11_seesActs⟩ ⟨Nat.le_of_ble_eq_true rfl, Nat.le_of_ble_eq_true rfl⟩) ⟨pre_bl, va_recv hK hPc (ci := 10) (q0 := 0) rfl rfl, fun U hU hW => ⟨rfl, pre_of hX hS hK hPc hDc hFc hU hW⟩⟩ rfl rfl hl.1 rfl (lv_room (Nat.le_of_ble_eq_true rfl)) dX11_act_63 ⟨Nat.zero_le _, Nat.zero_le _⟩) hS (fun q _ h => hFc q h) hFc (fun r17 u t H1 locs ht hvm hw hB hz1 hk1 hS => ?_)
        obtain ⟨i_t_ran_18, f_t_bodies_19⟩ := u
        replace hw : QK r17 i_t_ran_18 f_t_bodies_19 := hw
        clear hq
        subst eQ
        obtain ⟨hP1, hD1⟩ := hB
        rw [ht] at hP1
        obtain ⟨hP, hD⟩ := va_join (wr := [(a_t_s, .inl (cyI, 1454, .inl f_t_s))]) (w1 := [(a_t, .inr (10, [w_t_thrown, .ref a_t_s, w_t_image, w_t_hasImage, w_t_act, w_t_spot, w_t_end, w_t_isWrong, w_t_open, w_t_readMany, w_t_readSpan, w_t_readSum, w_t_readOdds, w_t_readBank, w_t_readMill, w_t_readLevel, w_t_levels, w_t_boardsNow, w_t_ways, w_t_nexts, w_t_hourNow, w_t_staying, w_t_leftCard, w_t_leftLine, w_t_isMute, w_t_higher, w_t_over, w_t_dry, w_t_truths, w_t_failHours, w_t_failRow, w_t_keptBoards, w_t_keptHung, .ref a_t_bodies, .int i_t_ran_18, .int y6, .int x1, .int y8])), (a_t_bodies, .inl (cyI, 20, .inl f_t_bodies_19))]) hP hD [1, 0] [2] rfl rfl (by decide) (by decide) hk1 hFc hP1 hD1
        clear hPc hDc hFc hk1 hz1 hP1 hD1 ht hvm
        generalize H1 = H at hP hS ⊢
        replace hP : va_P D vwCl [(a_t_s, .inl (cyI, 1454, .inl f_t_s)), (a_t, .inr (10, [w_t_thrown, .ref a_t_s, w_t_image, w_t_hasImage, w_t_act, w_t_spot, w_t_end, w_t_isWrong, w_t_open, w_t_readMany, w_t_readSpan, w_t_readSum, w_t_readOdds, w_t_readBank, w_t_readMill, w_t_readLevel, w_t_levels, w_t_boardsNow, w_t_ways, w_t_nexts, w_t_hourNow, w_t_staying, w_t_leftCard, w_t_leftLine, w_t_isMute, w_t_higher, w_t_over, w_t_dry, w_t_truths, w_t_failHours, w_t_failRow, w_t_keptBoards, w_t_keptHung, .ref a_t_bodies, .int i_t_ran_18, .int y6, .int x1, .int y8])), (a_t_bodies, .inl (cyI, 20, .inl f_t_bodies_19))] H := hP
        replace hD : va_D A [(a_t_s, .inl (cyI, 1454, .inl f_t_s)), (a_t, .inr (10, [w_t_thrown, .ref a_t_s, w_t_image, w_t_hasImage, w_t_act, w_t_spot, w_t_end, w_t_isWrong, w_t_open, w_t_readMany, w_t_readSpan, w_t_readSum, w_t_readOdds, w_t_readBank, w_t_readMill, w_t_readLevel, w_t_levels, w_t_boardsNow, w_t_ways, w_t_nexts, w_t_hourNow, w_t_staying, w_t_leftCard, w_t_leftLine, w_t_isMute, w_t_higher, w_t_over, w_t_dry, w_t_truths, w_t_failHours, w_t_failRow, w_t_keptBoards, w_t_keptHung, .ref a_t_bodies, .int i_t_ran_18, .int y6, .int x1, .int y8])), (a_t_bodies, .inl (cyI, 20, .inl f_t_bodies_19))] := hD
        refine lv_goto (tgt := 87) hx hb dX11_act_66 (by decide) ?_
        have hPj := hP.sub (ws' := [(a_t, .inr (10, [w_t_thrown, .ref a_t_s, w_t_image, w_t_hasImage, w_t_act, w_t_spot, w_t_end, w_t_isWrong, w_t_open, w_t_readMany, w_t_readSpan, w_t_readSum, w_t_readOdds, w_t_readBank, w_t_readMill, w_t_readLevel, w_t_levels, w_t_boardsNow, w_t_ways, w_t_nexts, w_t_hourNow, w_t_staying, w_t_leftCard, w_t_leftLine, w_t_isMute, w_t_higher, w_t_over, w_t_dry, w_t_truths, w_t_failHours, w_t_failRow, w_t_keptBoards, w_t_keptHung, .ref a_t_bodies, .int i_t_ran_18, .int y6, .int x1, .int y8])), (a_t_s, .inl (cyI, 1454, .inl f_t_s)), (a_t_bodies, .inl (cyI, 20, .inl f_t_bodies_19))]) [1, 0, 2] rfl
        have hDj := hD.sub (ws' := [(a_t, .inr (10, [w_t_thrown, .ref a_t_s, w_t_image, w_t_hasImage, w_t_act, w_t_spot, w_t_end, w_t_isWrong, w_t_open, w_t_readMany, w_t_readSpan, w_t_readSum, w_t_readOdds, w_t_readBank, w_t_readMill, w_t_readLevel, w_t_levels, w_t_boardsNow, w_t_ways, w_t_nexts, w_t_hourNow, w_t_staying, w_t_leftCard, w_t_leftLine, w_t_isMute, w_t_higher, w_t_over, w_t_dry, w_t_truths, w_t_failHours, w_t_failRow, w_t_keptBoards, w_t_keptHung, .ref a_t_bodies, .int i_t_ran_18, .int y6, .int x1, .int y8])), (a_t_s, .inl (cyI, 1454, .inl f_t_s)), (a_t_bodies, .inl (cyI, 20, .inl f_t_bodies_19))]) [1, 0, 2] (by decide) rfl
        exact W.iret (v := r17) hx hb hr (fun t ht hW => ⟨⟨r17, (i_t_ran_18, y6, x1, y8, f_t_bodies_19), rfl, hw, post_mk ht hPj hDj⟩, hS.F ht⟩) hS.2.2 dX11_act_87 hlocks
    · replace hw := hw.1 c4
      refine lv_iconst (v := 0) hx hb dX11_act_22 (by decide) ?_
      have hPj := hP.sub (ws' := [(a_t, .inr (10, [w_t_thrown, .ref a_t_s, w_t_image, w_t_hasImage, w_t_act, w_t_spot, w_t_end, w_t_isWrong, w_t_open, w_t_readMany, w_t_readSpan, w_t_readSum, w_t_readOdds, w_t_readBank, w_t_readMill, w_t_readLevel, w_t_levels, w_t_boardsNow, w_t_ways, w_t_nexts, w_t_hourNow, w_t_staying, w_t_leftCard, w_t_leftLine, w_t_isMute, w_t_higher, w_t_over, w_t_dry, w_t_truths, w_t_failHours, w_t_failRow, w_t_keptBoards, w_t_keptHung, .ref a_t_bodies, .int 0, .int i_t_kind, .int i_t_number, .int i_t_tellsV])), (a_t_s, .inl (cyI, 1454, .inl f_t_s)), (a_t_bodies, .inl (cyI, 20, .inl f_t_bodies))]) [1, 2, 0] rfl
      have hDj := hD.sub (ws' := [(a_t, .inr (10, [w_t_thrown, .ref a_t_s, w_t_image, w_t_hasImage, w_t_act, w_t_spot, w_t_end, w_t_isWrong, w_t_open, w_t_readMany, w_t_readSpan, w_t_readSum, w_t_readOdds, w_t_readBank, w_t_readMill, w_t_readLevel, w_t_levels, w_t_boardsNow, w_t_ways, w_t_nexts, w_t_hourNow, w_t_staying, w_t_leftCard, w_t_leftLine, w_t_isMute, w_t_higher, w_t_over, w_t_dry, w_t_truths, w_t_failHours, w_t_failRow, w_t_keptBoards, w_t_keptHung, .ref a_t_bodies, .int 0, .int i_t_kind, .int i_t_number, .int i_t_tellsV])), (a_t_s, .inl (cyI, 1454, .inl f_t_s)), (a_t_bodies, .inl (cyI, 20, .inl f_t_bodies))]) [1, 2, 0] (by decide) rfl
      exact W.iret (v := 0) hx hb hr (fun t ht hW => ⟨⟨0, (0, i_t_kind, i_t_number, i_t_tellsV, f_t_bodies), rfl, hw, post_mk ht hPj hDj⟩, hS.F ht⟩) hS.2.2 dX11_act_23 hlocks
set_option maxHeartbeats 8000000 in
set_option maxRecDepth 100000 in
theorem MX11_trace (l : Launch) (D : va_G) (cyI cyZ cyC : ClassId) (ro : va_W) (ce : Nat → CT) (cin : Nat → Prop) (ad : AD) (a_t a_t_bodies : Nat) (w_t_thrown w_t_s w_t_image w_t_hasImage w_t_act w_t_spot w_t_end w_t_isWrong w_t_open w_t_readMany w_t_readSpan w_t_readSum w_t_readOdds w_t_readBank w_t_readMill w_t_readLevel w_t_levels w_t_boardsNow w_t_ways w_t_nexts w_t_hourNow w_t_staying w_t_leftCard w_t_leftLine w_t_isMute w_t_higher w_t_over w_t_dry w_t_truths w_t_failHours w_t_failRow w_t_keptBoards w_t_keptHung w_t_kind w_t_number w_t_tellsV : Value) (sz : Nat) (x1 : Int32) (i_t_ran : Int32) (f_t_bodies : Nat → Int32) (Q : Int32 → Prop)  (hw : WX11_trace x1 i_t_ran f_t_bodies Q) : Met l yX11_trace wsX11_trace ({ frames := 1, cells := 0, slots := 0, locals := 22 }) (va_Pc [.ref a_t, .int x1] (PRE D cyI cyZ cyC ro ce cin ad (SX11_trace cyI cyZ cyC a_t a_t_bodies w_t_thrown w_t_s w_t_image w_t_hasImage w_t_act w_t_spot w_t_end w_t_isWrong w_t_open w_t_readMany w_t_readSpan w_t_readSum w_t_readOdds w_t_readBank w_t_readMill w_t_readLevel w_t_levels w_t_boardsNow w_t_ways w_t_nexts w_t_hourNow w_t_staying w_t_leftCard w_t_leftLine w_t_isMute w_t_higher w_t_over w_t_dry w_t_truths w_t_failHours w_t_failRow w_t_keptBoards w_t_keptHung w_t_kind w_t_number w_t_tellsV  i_t_ran f_t_bodies) sz)) (va_Qi (fun (r : Int32) (_ : Unit) => Q r) (fun (_ : Unit) (t : State) => POST D (va_A (SX11_trace cyI cyZ cyC a_t a_t_bodies w_t_thrown w_t_s w_t_image w_t_hasImage w_t_act w_t_spot w_t_end w_t_isWrong w_t_open w_t_readMany w_t_readSpan w_t_readSum w_t_readOdds w_t_readBank w_t_readMill w_t_readLevel w_t_levels w_t_boardsNow w_t_ways w_t_nexts w_t_hourNow w_t_staying w_t_leftCard w_t_leftLine w_t_isMute w_t_higher w_t_over w_t_dry w_t_truths w_t_failHours w_t_failRow w_t_keptBoards w_t_keptHung w_t_kind w_t_number w_t_tellsV  i_t_ran f_t_bodies) sz) (SX11_trace cyI cyZ cyC a_t a_t_bodies w_t_thrown w_t_s w_t_image w_t_hasImage w_t_act w_t_spot w_t_end w_t_isWrong w_t_open w_t_readMany w_t_readSpan w_t_readSum w_t_readOdds w_t_readBank w_t_readMill w_t_readLevel w_t_levels w_t_boardsNow w_t_ways w_t_nexts w_t_hourNow w_t_staying w_t_leftCard w_t_leftLine w_t_isMute w_t_higher w_t_over w_t_dry w_t_truths w_t_failHours w_t_failRow w_t_keptBoards w_t_keptHung w_t_kind w_t_number w_t_tellsV  i_t_ran f_t_bodies) t) (va_A (SX11_trace cyI cyZ cyC a_t a_t_bodies w_t_thrown w_t_s w_t_image w_t_hasImage w_t_act w_t_spot w_t_end w_t_isWrong w_t_open w_t_readMany w_t_readSpan w_t_readSum w_t_readOdds w_t_readBank w_t_readMill w_t_readLevel w_t_levels w_t_boardsNow w_t_ways w_t_nexts w_t_hourNow w_t_staying w_t_leftCard w_t_leftLine w_t_isMute w_t_higher w_t_over w_t_dry w_t_truths w_t_failHours w_t_failRow w_t_keptBoards w_t_keptHung w_t_kind w_t_number w_t_tellsV  i_t_ran f_t_bodies) sz)) 0 0 (va_A (SX11_trace cyI cyZ cyC a_t a_t_bodies w_t_thrown w_t_s w_t_image w_t_hasImage w_t_act w_t_spot w_t_end w_t_isWrong w_t_open w_t_readMany w_t_readSpan w_t_readSum w_t_readOdds w_t_readBank w_t_readMill w_t_readLevel w_t_levels w_t_boardsNow w_t_ways w_t_nexts w_t_hourNow w_t_staying w_t_leftCard w_t_leftLine w_t_isMute w_t_higher w_t_over w_t_dry w_t_truths w_t_failHours w_t_failRow w_t_keptBoards w_t_keptHung w_t_kind w_t_number w_t_tellsV  i_t_ran f_t_bodies) sz) := by
  refine Met.ofW (cc := cX11_trace) (maxL := 2) (ret := (some .int)) (by decide +kernel) rfl ?_
  intro p e s m args below meth c s₁ B hml hv
  obtain ⟨rfl, hsz, hP, hK, hD0, hX⟩ := hv
  have hx := B.exec
  have hb := B.bytes
  have hr := B.returns
  have hts := atoms_spec (ws := wsX11_trace) B.pre
  have hown : s.vm.findClass RX11 = some m.cls := findClass_of_methodNamed B.named
  have hlocks := B.notSynchronized
  clear B
  subst hsz
  have hD := hD0.self (sz := s.heap.size)
  clear hD0
  generalize hAe : va_A (SX11_trace cyI cyZ cyC a_t a_t_bodies w_t_thrown w_t_s w_t_image w_t_hasImage w_t_act w_t_spot w_t_end w_t_isWrong w_t_open w_t_readMany w_t_readSpan w_t_readSum w_t_readOdds w_t_readBank w_t_readMill w_t_readLevel w_t_levels w_t_boardsNow w_t_ways w_t_nexts w_t_hourNow w_t_staying w_t_leftCard w_t_leftLine w_t_isMute w_t_higher w_t_over w_t_dry w_t_truths w_t_failHours w_t_failRow w_t_keptBoards w_t_keptHung w_t_kind w_t_number w_t_tellsV  i_t_ran f_t_bodies) s.heap.size = A at hD hX ⊢
  have hA : ∀ q : Nat, s.heap.size ≤ q → A q := fun q h => by rw [← hAe]; exact Or.inr h
  clear hAe
  obtain ⟨H, hH⟩ : ∃ H, H = s.heap := ⟨_, rfl⟩
  rw [← hH] at hP ⊢
  have hS : va_S A s.heap H [] := by rw [hH]; exact va_S.rf
  clear hH
  replace hP : va_P D vwCl [(a_t, .inr (10, [w_t_thrown, w_t_s, w_t_image, w_t_hasImage, w_t_act, w_t_spot, w_t_end, w_t_isWrong, w_t_open, w_t_readMany, w_t_readSpan, w_t_readSum, w_t_readOdds, w_t_readBank, w_t_readMill, w_t_readLevel, w_t_levels, w_t_boardsNow, w_t_ways, w_t_nexts, w_t_hourNow, w_t_staying, w_t_leftCard, w_t_leftLine, w_t_isMute, w_t_higher, w_t_over, w_t_dry, w_t_truths, w_t_failHours, w_t_failRow, w_t_keptBoards, w_t_keptHung, .ref a_t_bodies, .int i_t_ran, w_t_kind, w_t_number, w_t_tellsV])), (a_t_bodies, .inl (cyI, 20, .inl f_t_bodies))] H := hP
  replace hD : va_D A [(a_t, .inr (10, [w_t_thrown, w_t_s, w_t_image, w_t_hasImage, w_t_act, w_t_spot, w_t_end, w_t_isWrong, w_t_open, w_t_readMany, w_t_readSpan, w_t_readSum, w_t_readOdds, w_t_readBank, w_t_readMill, w_t_readLevel, w_t_levels, w_t_boardsNow, w_t_ways, w_t_nexts, w_t_hourNow, w_t_staying, w_t_leftCard, w_t_leftLine, w_t_isMute, w_t_higher, w_t_over, w_t_dry, w_t_truths, w_t_failHours, w_t_failRow, w_t_keptBoards, w_t_keptHung, .ref a_t_bodies, .int i_t_ran, w_t_kind, w_t_number, w_t_tellsV])), (a_t_bodies, .inl (cyI, 20, .inl f_t_bodies))] := hD
  have hl := lv_entry ([.ref a_t, .int x1]) (n := 2) (Nat.le_of_ble_eq_true rfl)
  rw [lg_entry_eq]
  generalize (lg_sl ([.ref a_t, .int x1]) ++ List.replicate (2 - (lg_sl ([.ref a_t, .int x1])).length) Slot.unset).toArray = ls at hl ⊢
  replace hl : lv_has ls 2 [(0, .ref a_t), (1, .int x1)] := hl
  have B20 : ∀ (s0 : Int32) (s1 : Int32) (s2 : Int32), WX11_trace_20 x1 i_t_ran f_t_bodies s0 s1 s2 Q  → ∀ (H : Heap) (locs : List Loc), va_P D vwCl [(a_t, .inr (10, [w_t_thrown, w_t_s, w_t_image, w_t_hasImage, w_t_act, w_t_spot, w_t_end, w_t_isWrong, w_t_open, w_t_readMany, w_t_readSpan, w_t_readSum, w_t_readOdds, w_t_readBank, w_t_readMill, w_t_readLevel, w_t_levels, w_t_boardsNow, w_t_ways, w_t_nexts, w_t_hourNow, w_t_staying, w_t_leftCard, w_t_leftLine, w_t_isMute, w_t_higher, w_t_over, w_t_dry, w_t_truths, w_t_failHours, w_t_failRow, w_t_keptBoards, w_t_keptHung, .ref a_t_bodies, .int i_t_ran, w_t_kind, w_t_number, w_t_tellsV])), (a_t_bodies, .inl (cyI, 20, .inl f_t_bodies))] H → va_D A [(a_t, .inr (10, [w_t_thrown, w_t_s, w_t_image, w_t_hasImage, w_t_act, w_t_spot, w_t_end, w_t_isWrong, w_t_open, w_t_readMany, w_t_readSpan, w_t_readSum, w_t_readOdds, w_t_readBank, w_t_readMill, w_t_readLevel, w_t_levels, w_t_boardsNow, w_t_ways, w_t_nexts, w_t_hourNow, w_t_staying, w_t_leftCard, w_t_leftLine, w_t_isMute, w_t_higher, w_t_over, w_t_dry, w_t_truths, w_t_failHours, w_t_failRow, w_t_keptBoards, w_t_keptHung, .ref a_t_bodies, .int i_t_ran, w_t_kind, w_t_number, w_t_tellsV])), (a_t_bodies, .inl (cyI, 20, .inl f_t_bodies))] → va_S A s.heap H locs → ∀ (ls : Array Slot), lv_has ls 2 [(0, .ref a_t), (1, .int x1)] → W p l e { frames := 1, cells := 0, slots := 0, locals := 22 } s m ([.ref a_t, .int x1] : List Value).toArray below meth c H locs 0 0 (MQ below (va_Qi (fun (r : Int32) (_ : Unit) => Q r) (fun (_ : Unit) (t : State) => POST D A (SX11_trace cyI cyZ cyC a_t a_t_bodies w_t_thrown w_t_s w_t_image w_t_hasImage w_t_act w_t_spot w_t_end w_t_isWrong w_t_open w_t_readMany w_t_readSpan w_t_readSum w_t_readOdds w_t_readBank w_t_readMill w_t_readLevel w_t_levels w_t_boardsNow w_t_ways w_t_nexts w_t_hourNow w_t_staying w_t_leftCard w_t_leftLine w_t_isMute w_t_higher w_t_over w_t_dry w_t_truths w_t_failHours w_t_failRow w_t_keptBoards w_t_keptHung w_t_kind w_t_number w_t_tellsV  i_t_ran f_t_bodies) t) A) ([.ref a_t, .int x1] : List Value).toArray s 0 0 A) (F0 m 20 ls [.int s2, .int s1, .int s0]) := by
    intro s0 s1 s2 hw H locs hP hD hS ls hl
    unfold WX11_trace_20 at hw
    refine lv_iconst (v := 1) hx hb dX11_trace_20 (by decide) ?_
    refine lv_isub hx hb dX11_trace_21 ?_
    obtain ⟨QK, eQ, hq⟩ := genq (P := WX11_in s0 s1 (s2 - 1)) hw
    clear hw
    have hPc := hP.sub (ws' := []) [] rfl
    have hDc := hD.sub (ws' := []) [] (by decide) rfl
    have hFc := va_free (wc := []) hD hS hA [] rfl
    refine va_calli (va_runS (As := [.int s0, .int s1, .int (s2 - 1)]) (rest := []) ⟨hx, hb, hml, hown, hts⟩ (MX11_in l D cyI cyZ cyC ro ce cin ad    H.size s0 s1 (s2 - 1) QK  hq) (va_cwS 3 hts gX11_trace_X11_in rfl rfl rfl dmX11_in ⟨Nat.le_of_ble_eq_true rfl, Nat.le_of_ble_eq_true rfl⟩) ⟨pre_bl, fun U hU hW => ⟨rfl, pre_of hX hS hK hPc hDc hFc hU hW⟩⟩ rfl rfl hl.1 rfl (lv_room (Nat.le_of_ble_eq_true rfl)) dX11_trace_22 ⟨Nat.zero_le _, Nat.zero_le _⟩) hS (fun q _ h => hFc q h) hFc (fun r2 u t H1 locs ht hvm hw hB hz1 hk1 hS => ?_)
    replace hw : QK r2 := hw
    clear hq
    subst eQ
    obtain ⟨hP1, hD1⟩ := hB
    rw [ht] at hP1
    obtain ⟨hP, hD⟩ := va_join (wr := [(a_t, .inr (10, [w_t_thrown, w_t_s, w_t_image, w_t_hasImage, w_t_act, w_t_spot, w_t_end, w_t_isWrong, w_t_open, w_t_readMany, w_t_readSpan, w_t_readSum, w_t_readOdds, w_t_readBank, w_t_readMill, w_t_readLevel, w_t_levels, w_t_boardsNow, w_t_ways, w_t_nexts, w_t_hourNow, w_t_staying, w_t_leftCard, w_t_leftLine, w_t_isMute, w_t_higher, w_t_over, w_t_dry, w_t_truths, w_t_failHours, w_t_failRow, w_t_keptBoards, w_t_keptHung, .ref a_t_bodies, .int i_t_ran, w_t_kind, w_t_number, w_t_tellsV])), (a_t_bodies, .inl (cyI, 20, .inl f_t_bodies))]) (w1 := []) hP hD [] [0, 1] rfl rfl (by decide) (by decide) hk1 hFc hP1 hD1
    clear hPc hDc hFc hk1 hz1 hP1 hD1 ht hvm
    generalize H1 = H at hP hS ⊢
    replace hP : va_P D vwCl [(a_t, .inr (10, [w_t_thrown, w_t_s, w_t_image, w_t_hasImage, w_t_act, w_t_spot, w_t_end, w_t_isWrong, w_t_open, w_t_readMany, w_t_readSpan, w_t_readSum, w_t_readOdds, w_t_readBank, w_t_readMill, w_t_readLevel, w_t_levels, w_t_boardsNow, w_t_ways, w_t_nexts, w_t_hourNow, w_t_staying, w_t_leftCard, w_t_leftLine, w_t_isMute, w_t_higher, w_t_over, w_t_dry, w_t_truths, w_t_failHours, w_t_failRow, w_t_keptBoards, w_t_keptHung, .ref a_t_bodies, .int i_t_ran, w_t_kind, w_t_number, w_t_tellsV])), (a_t_bodies, .inl (cyI, 20, .inl f_t_bodies))] H := hP
    replace hD : va_D A [(a_t, .inr (10, [w_t_thrown, w_t_s, w_t_image, w_t_hasImage, w_t_act, w_t_spot, w_t_end, w_t_isWrong, w_t_open, w_t_readMany, w_t_readSpan, w_t_readSum, w_t_readOdds, w_t_readBank, w_t_readMill, w_t_readLevel, w_t_levels, w_t_boardsNow, w_t_ways, w_t_nexts, w_t_hourNow, w_t_staying, w_t_leftCard, w_t_leftLine, w_t_isMute, w_t_higher, w_t_over, w_t_dry, w_t_truths, w_t_failHours, w_t_failRow, w_t_keptBoards, w_t_keptHung, .ref a_t_bodies, .int i_t_ran, w_t_kind, w_t_number, w_t_tellsV])), (a_t_bodies, .inl (cyI, 20, .inl f_t_bodies))] := hD
    refine lv_if_eq (tgt := 37) hx hb dX11_trace_25 (by decide) (fun c3 => ?_) (fun c3 => ?_)
    · replace hw := hw.1 c3
      refine lv_iconst (v := (-1)) hx hb dX11_trace_37 (by decide) ?_
      exact W.iret (v := (-1)) hx hb hr (fun t ht hW => ⟨⟨(-1), (), rfl, hw, post_mk ht hP hD⟩, hS.F ht⟩) hS.2.2 dX11_trace_38 hlocks
    · replace hw := hw.2 c3
      refine lv_aload_n hx hb dX11_trace_28 rfl (lv_at hl 0 rfl) ?_
      refine va_get (D := D) (ci := 10) (v := .ref a_t_bodies) (C := RX11) (T := TX11) (N := 38) hx hb hts inX11_trace_X11 hown hK hP 0 rfl rfl 33 (by decide) (hts _ (List.mem_of_getElem? (i := 2) rfl)) (fun _ h9 => h9) rfl dX11_trace_29 ?_
      refine lv_iload_n hx hb dX11_trace_32 rfl (lv_at hl 1 rfl) ?_
      have h4 := hw.1
      replace hw := hw.2
      refine va_iald hx hb hK hP 1 0 rfl rfl h4 dX11_trace_33 ?_
      refine lv_goto (tgt := 38) hx hb dX11_trace_34 (by decide) ?_
      exact W.iret (v := f_t_bodies x1.toNatClampNeg) hx hb hr (fun t ht hW => ⟨⟨f_t_bodies x1.toNatClampNeg, (), rfl, hw, post_mk ht hP hD⟩, hS.F ht⟩) hS.2.2 dX11_trace_38 hlocks
  unfold WX11_trace at hw
  refine lv_iload_n hx hb dX11_trace_0 rfl (lv_at hl 1 rfl) ?_
  refine lv_iconst (v := 0) hx hb dX11_trace_1 (by decide) ?_
  refine lv_aload_n hx hb dX11_trace_2 rfl (lv_at hl 0 rfl) ?_
  refine va_get (D := D) (ci := 10) (v := .int i_t_ran) (C := RX11) (T := TX11) (N := 38) hx hb hts inX11_trace_X11 hown hK hP 0 rfl rfl 34 (by decide) (hts _ (List.mem_of_getElem? (i := 1) rfl)) (fun _ h9 => h9) rfl dX11_trace_3 ?_
  refine lv_bipush (v := 20) hx hb dX11_trace_6 (by decide) ?_
  refine lv_icmp_ge (tgt := 18) hx hb dX11_trace_8 (by decide) (fun c1 => ?_) (fun c1 => ?_)
  · replace hw := hw.1 c1
    refine lv_bipush (v := 20) hx hb dX11_trace_18 (by decide) ?_
    exact B20 x1 0 20 hw _ _ hP hD hS _ (lv_sub hl [0, 1] rfl)
  · replace hw := hw.2 c1
    refine lv_aload_n hx hb dX11_trace_11 rfl (lv_at hl 0 rfl) ?_
    refine va_get (D := D) (ci := 10) (v := .int i_t_ran) (C := RX11) (T := TX11) (N := 38) hx hb hts inX11_trace_X11 hown hK hP 0 rfl rfl 34 (by decide) (hts _ (List.mem_of_getElem? (i := 1) rfl)) (fun _ h9 => h9) rfl dX11_trace_12 ?_
    refine lv_goto (tgt := 20) hx hb dX11_trace_15 (by decide) ?_
    exact B20 x1 0 i_t_ran hw _ _ hP hD hS _ (lv_sub hl [0, 1] rfl)
set_option maxHeartbeats 8000000 in
set_option maxRecDepth 100000 in
theorem MX11_as (l : Launch) (D : va_G) (cyI cyZ cyC : ClassId) (ro : va_W) (ce : Nat → CT) (cin : Nat → Prop) (ad : AD) (a_t a_t_s : Nat) (w_t_thrown w_t_image w_t_hasImage w_t_act w_t_spot w_t_end w_t_isWrong w_t_open w_t_readMany w_t_readSpan w_t_readSum w_t_readOdds w_t_readBank w_t_readMill w_t_readLevel w_t_levels w_t_boardsNow w_t_ways w_t_nexts w_t_hourNow w_t_staying w_t_leftCard w_t_leftLine w_t_isMute w_t_higher w_t_over w_t_dry w_t_truths w_t_failHours w_t_failRow w_t_keptBoards w_t_keptHung w_t_bodies w_t_ran w_t_kind w_t_number w_t_tellsV : Value) (sz : Nat) (x1 : Int32) (x2 : Int32) (f_t_s : Nat → Int32) (Q : Int32 → Prop)  (hw : WX11_as x1 x2 f_t_s Q) : Met l yX11_as wsX11_as ({ frames := 2, cells := 0, slots := 0, locals := 43 }) (va_Pc [.ref a_t, .int x1, .int x2] (PRE D cyI cyZ cyC ro ce cin ad (SX11_as cyI cyZ cyC a_t a_t_s w_t_thrown w_t_image w_t_hasImage w_t_act w_t_spot w_t_end w_t_isWrong w_t_open w_t_readMany w_t_readSpan w_t_readSum w_t_readOdds w_t_readBank w_t_readMill w_t_readLevel w_t_levels w_t_boardsNow w_t_ways w_t_nexts w_t_hourNow w_t_staying w_t_leftCard w_t_leftLine w_t_isMute w_t_higher w_t_over w_t_dry w_t_truths w_t_failHours w_t_failRow w_t_keptBoards w_t_keptHung w_t_bodies w_t_ran w_t_kind w_t_number w_t_tellsV  f_t_s) sz)) (va_Qi (fun (r : Int32) (_ : Unit) => Q r) (fun (_ : Unit) (t : State) => POST D (va_A (SX11_as cyI cyZ cyC a_t a_t_s w_t_thrown w_t_image w_t_hasImage w_t_act w_t_spot w_t_end w_t_isWrong w_t_open w_t_readMany w_t_readSpan w_t_readSum w_t_readOdds w_t_readBank w_t_readMill w_t_readLevel w_t_levels w_t_boardsNow w_t_ways w_t_nexts w_t_hourNow w_t_staying w_t_leftCard w_t_leftLine w_t_isMute w_t_higher w_t_over w_t_dry w_t_truths w_t_failHours w_t_failRow w_t_keptBoards w_t_keptHung w_t_bodies w_t_ran w_t_kind w_t_number w_t_tellsV  f_t_s) sz) (SX11_as cyI cyZ cyC a_t a_t_s w_t_thrown w_t_image w_t_hasImage w_t_act w_t_spot w_t_end w_t_isWrong w_t_open w_t_readMany w_t_readSpan w_t_readSum w_t_readOdds w_t_readBank w_t_readMill w_t_readLevel w_t_levels w_t_boardsNow w_t_ways w_t_nexts w_t_hourNow w_t_staying w_t_leftCard w_t_leftLine w_t_isMute w_t_higher w_t_over w_t_dry w_t_truths w_t_failHours w_t_failRow w_t_keptBoards w_t_keptHung w_t_bodies w_t_ran w_t_kind w_t_number w_t_tellsV  f_t_s) t) (va_A (SX11_as cyI cyZ cyC a_t a_t_s w_t_thrown w_t_image w_t_hasImage w_t_act w_t_spot w_t_end w_t_isWrong w_t_open w_t_readMany w_t_readSpan w_t_readSum w_t_readOdds w_t_readBank w_t_readMill w_t_readLevel w_t_levels w_t_boardsNow w_t_ways w_t_nexts w_t_hourNow w_t_staying w_t_leftCard w_t_leftLine w_t_isMute w_t_higher w_t_over w_t_dry w_t_truths w_t_failHours w_t_failRow w_t_keptBoards w_t_keptHung w_t_bodies w_t_ran w_t_kind w_t_number w_t_tellsV  f_t_s) sz)) 0 0 (va_A (SX11_as cyI cyZ cyC a_t a_t_s w_t_thrown w_t_image w_t_hasImage w_t_act w_t_spot w_t_end w_t_isWrong w_t_open w_t_readMany w_t_readSpan w_t_readSum w_t_readOdds w_t_readBank w_t_readMill w_t_readLevel w_t_levels w_t_boardsNow w_t_ways w_t_nexts w_t_hourNow w_t_staying w_t_leftCard w_t_leftLine w_t_isMute w_t_higher w_t_over w_t_dry w_t_truths w_t_failHours w_t_failRow w_t_keptBoards w_t_keptHung w_t_bodies w_t_ran w_t_kind w_t_number w_t_tellsV  f_t_s) sz) := by
  refine Met.ofW (cc := cX11_as) (maxL := 3) (ret := (some .int)) (by decide +kernel) rfl ?_
  intro p e s m args below meth c s₁ B hml hv
  obtain ⟨rfl, hsz, hP, hK, hD0, hX⟩ := hv
  have hx := B.exec
  have hb := B.bytes
  have hr := B.returns
  have hts := atoms_spec (ws := wsX11_as) B.pre
  have hown : s.vm.findClass RX11 = some m.cls := findClass_of_methodNamed B.named
  have hlocks := B.notSynchronized
  clear B
  subst hsz
  have hD := hD0.self (sz := s.heap.size)
  clear hD0
  generalize hAe : va_A (SX11_as cyI cyZ cyC a_t a_t_s w_t_thrown w_t_image w_t_hasImage w_t_act w_t_spot w_t_end w_t_isWrong w_t_open w_t_readMany w_t_readSpan w_t_readSum w_t_readOdds w_t_readBank w_t_readMill w_t_readLevel w_t_levels w_t_boardsNow w_t_ways w_t_nexts w_t_hourNow w_t_staying w_t_leftCard w_t_leftLine w_t_isMute w_t_higher w_t_over w_t_dry w_t_truths w_t_failHours w_t_failRow w_t_keptBoards w_t_keptHung w_t_bodies w_t_ran w_t_kind w_t_number w_t_tellsV  f_t_s) s.heap.size = A at hD hX ⊢
  have hA : ∀ q : Nat, s.heap.size ≤ q → A q := fun q h => by rw [← hAe]; exact Or.inr h
  clear hAe
  obtain ⟨H, hH⟩ : ∃ H, H = s.heap := ⟨_, rfl⟩
  rw [← hH] at hP ⊢
  have hS : va_S A s.heap H [] := by rw [hH]; exact va_S.rf
  clear hH
  replace hP : va_P D vwCl [(a_t, .inr (10, [w_t_thrown, .ref a_t_s, w_t_image, w_t_hasImage, w_t_act, w_t_spot, w_t_end, w_t_isWrong, w_t_open, w_t_readMany, w_t_readSpan, w_t_readSum, w_t_readOdds, w_t_readBank, w_t_readMill, w_t_readLevel, w_t_levels, w_t_boardsNow, w_t_ways, w_t_nexts, w_t_hourNow, w_t_staying, w_t_leftCard, w_t_leftLine, w_t_isMute, w_t_higher, w_t_over, w_t_dry, w_t_truths, w_t_failHours, w_t_failRow, w_t_keptBoards, w_t_keptHung, w_t_bodies, w_t_ran, w_t_kind, w_t_number, w_t_tellsV])), (a_t_s, .inl (cyI, 1454, .inl f_t_s))] H := hP
  replace hD : va_D A [(a_t, .inr (10, [w_t_thrown, .ref a_t_s, w_t_image, w_t_hasImage, w_t_act, w_t_spot, w_t_end, w_t_isWrong, w_t_open, w_t_readMany, w_t_readSpan, w_t_readSum, w_t_readOdds, w_t_readBank, w_t_readMill, w_t_readLevel, w_t_levels, w_t_boardsNow, w_t_ways, w_t_nexts, w_t_hourNow, w_t_staying, w_t_leftCard, w_t_leftLine, w_t_isMute, w_t_higher, w_t_over, w_t_dry, w_t_truths, w_t_failHours, w_t_failRow, w_t_keptBoards, w_t_keptHung, w_t_bodies, w_t_ran, w_t_kind, w_t_number, w_t_tellsV])), (a_t_s, .inl (cyI, 1454, .inl f_t_s))] := hD
  have hl := lv_entry ([.ref a_t, .int x1, .int x2]) (n := 3) (Nat.le_of_ble_eq_true rfl)
  rw [lg_entry_eq]
  generalize (lg_sl ([.ref a_t, .int x1, .int x2]) ++ List.replicate (3 - (lg_sl ([.ref a_t, .int x1, .int x2])).length) Slot.unset).toArray = ls at hl ⊢
  replace hl : lv_has ls 3 [(0, .ref a_t), (1, .int x1), (2, .int x2)] := hl
  unfold WX11_as at hw
  refine lv_aload_n hx hb dX11_as_0 rfl (lv_at hl 0 rfl) ?_
  refine lv_iload_n hx hb dX11_as_1 rfl (lv_at hl 1 rfl) ?_
  obtain ⟨QK, eQ, hq⟩ := genq (P := WX11_isCard x1 f_t_s) hw
  clear hw
  have hPc := hP.sub (ws' := [(a_t, .inr (10, [w_t_thrown, .ref a_t_s, w_t_image, w_t_hasImage, w_t_act, w_t_spot, w_t_end, w_t_isWrong, w_t_open, w_t_readMany, w_t_readSpan, w_t_readSum, w_t_readOdds, w_t_readBank, w_t_readMill, w_t_readLevel, w_t_levels, w_t_boardsNow, w_t_ways, w_t_nexts, w_t_hourNow, w_t_staying, w_t_leftCard, w_t_leftLine, w_t_isMute, w_t_higher, w_t_over, w_t_dry, w_t_truths, w_t_failHours, w_t_failRow, w_t_keptBoards, w_t_keptHung, w_t_bodies, w_t_ran, w_t_kind, w_t_number, w_t_tellsV])), (a_t_s, .inl (cyI, 1454, .inl f_t_s))]) [0, 1] rfl
  have hDc := hD.sub (ws' := [(a_t, .inr (10, [w_t_thrown, .ref a_t_s, w_t_image, w_t_hasImage, w_t_act, w_t_spot, w_t_end, w_t_isWrong, w_t_open, w_t_readMany, w_t_readSpan, w_t_readSum, w_t_readOdds, w_t_readBank, w_t_readMill, w_t_readLevel, w_t_levels, w_t_boardsNow, w_t_ways, w_t_nexts, w_t_hourNow, w_t_staying, w_t_leftCard, w_t_leftLine, w_t_isMute, w_t_higher, w_t_over, w_t_dry, w_t_truths, w_t_failHours, w_t_failRow, w_t_keptBoards, w_t_keptHung, w_t_bodies, w_t_ran, w_t_kind, w_t_number, w_t_tellsV])), (a_t_s, .inl (cyI, 1454, .inl f_t_s))]) [0, 1] (by decide) rfl
  have hFc := va_free (wc := [(a_t, .inr (10, [w_t_thrown, .ref a_t_s, w_t_image, w_t_hasImage, w_t_act, w_t_spot, w_t_end, w_t_isWrong, w_t_open, w_t_readMany, w_t_readSpan, w_t_readSum, w_t_readOdds, w_t_readBank, w_t_readMill, w_t_readLevel, w_t_levels, w_t_boardsNow, w_t_ways, w_t_nexts, w_t_hourNow, w_t_staying, w_t_leftCard, w_t_leftLine, w_t_isMute, w_t_higher, w_t_over, w_t_dry, w_t_truths, w_t_failHours, w_t_failRow, w_t_keptBoards, w_t_keptHung, w_t_bodies, w_t_ran, w_t_kind, w_t_number, w_t_tellsV])), (a_t_s, .inl (cyI, 1454, .inl f_t_s))]) hD hS hA [0, 1] rfl
  refine va_calli (va_runV (As := [.int x1]) (rest := []) ⟨hx, hb, hml, hown, hts⟩ (MX11_isCard l D cyI cyZ cyC ro ce cin ad a_t a_t_s  (w_t_thrown) (w_t_image) (w_t_hasImage) (w_t_act) (w_t_spot) (w_t_end) (w_t_isWrong) (w_t_open) (w_t_readMany) (w_t_readSpan) (w_t_readSum) (w_t_readOdds) (w_t_readBank) (w_t_readMill) (w_t_readLevel) (w_t_levels) (w_t_boardsNow) (w_t_ways) (w_t_nexts) (w_t_hourNow) (w_t_staying) (w_t_leftCard) (w_t_leftLine) (w_t_isMute) (w_t_higher) (w_t_over) (w_t_dry) (w_t_truths) (w_t_failHours) (w_t_failRow) (w_t_keptBoards) (w_t_keptHung) (w_t_bodies) (w_t_ran) (w_t_kind) (w_t_number) (w_t_tellsV) H.size x1 f_t_s QK  hq) (cwV 1 hts gX11_as_X11_isCard rfl rfl rfl ⟨rfl, dmX11_isCard⟩ ⟨Nat.le_of_ble_eq_true rfl, Nat.le_of_ble_eq_true rfl⟩) ⟨pre_bl, va_recv hK hPc (ci := 10) (q0 := 0) rfl rfl, fun U hU hW => ⟨rfl, pre_of hX hS hK hPc hDc hFc hU hW⟩⟩ rfl rfl hl.1 rfl (lv_room (Nat.le_of_ble_eq_true rfl)) dX11_as_2 ⟨Nat.zero_le _, Nat.zero_le _⟩) hS (fun q _ h => hFc q h) hFc (fun r1 u t H1 locs ht hvm hw hB hz1 hk1 hS => ?_)
  replace hw : QK r1 := hw
  clear hq
  subst eQ
  obtain ⟨hP1, hD1⟩ := hB
  rw [ht] at hP1
  obtain ⟨hP, hD⟩ := va_join (wr := []) (w1 := [(a_t, .inr (10, [w_t_thrown, .ref a_t_s, w_t_image, w_t_hasImage, w_t_act, w_t_spot, w_t_end, w_t_isWrong, w_t_open, w_t_readMany, w_t_readSpan, w_t_readSum, w_t_readOdds, w_t_readBank, w_t_readMill, w_t_readLevel, w_t_levels, w_t_boardsNow, w_t_ways, w_t_nexts, w_t_hourNow, w_t_staying, w_t_leftCard, w_t_leftLine, w_t_isMute, w_t_higher, w_t_over, w_t_dry, w_t_truths, w_t_failHours, w_t_failRow, w_t_keptBoards, w_t_keptHung, w_t_bodies, w_t_ran, w_t_kind, w_t_number, w_t_tellsV])), (a_t_s, .inl (cyI, 1454, .inl f_t_s))]) hP hD [0, 1] [] rfl rfl (by decide) (by decide) hk1 hFc hP1 hD1
  clear hPc hDc hFc hk1 hz1 hP1 hD1 ht hvm
  generalize H1 = H at hP hS ⊢
  replace hP : va_P D vwCl [(a_t, .inr (10, [w_t_thrown, .ref a_t_s, w_t_image, w_t_hasImage, w_t_act, w_t_spot, w_t_end, w_t_isWrong, w_t_open, w_t_readMany, w_t_readSpan, w_t_readSum, w_t_readOdds, w_t_readBank, w_t_readMill, w_t_readLevel, w_t_levels, w_t_boardsNow, w_t_ways, w_t_nexts, w_t_hourNow, w_t_staying, w_t_leftCard, w_t_leftLine, w_t_isMute, w_t_higher, w_t_over, w_t_dry, w_t_truths, w_t_failHours, w_t_failRow, w_t_keptBoards, w_t_keptHung, w_t_bodies, w_t_ran, w_t_kind, w_t_number, w_t_tellsV])), (a_t_s, .inl (cyI, 1454, .inl f_t_s))] H := hP
  replace hD : va_D A [(a_t, .inr (10, [w_t_thrown, .ref a_t_s, w_t_image, w_t_hasImage, w_t_act, w_t_spot, w_t_end, w_t_isWrong, w_t_open, w_t_readMany, w_t_readSpan, w_t_readSum, w_t_readOdds, w_t_readBank, w_t_readMill, w_t_readLevel, w_t_levels, w_t_boardsNow, w_t_ways, w_t_nexts, w_t_hourNow, w_t_staying, w_t_leftCard, w_t_leftLine, w_t_isMute, w_t_higher, w_t_over, w_t_dry, w_t_truths, w_t_failHours, w_t_failRow, w_t_keptBoards, w_t_keptHung, w_t_bodies, w_t_ran, w_t_kind, w_t_number, w_t_tellsV])), (a_t_s, .inl (cyI, 1454, .inl f_t_s))] := hD
  refine lv_if_eq (tgt := 18) hx hb dX11_as_5 (by decide) (fun c2 => ?_) (fun c2 => ?_)
  · replace hw := hw.1 c2
    refine lv_iconst (v := (-1)) hx hb dX11_as_18 (by decide) ?_
    exact W.iret (v := (-1)) hx hb hr (fun t ht hW => ⟨⟨(-1), (), rfl, hw, post_mk ht hP hD⟩, hS.F ht⟩) hS.2.2 dX11_as_19 hlocks
  · replace hw := hw.2 c2
    refine lv_iload_n hx hb dX11_as_8 rfl (lv_at hl 2 rfl) ?_
    refine lv_iconst (v := 0) hx hb dX11_as_9 (by decide) ?_
    refine lv_bipush (v := 6) hx hb dX11_as_10 (by decide) ?_
    obtain ⟨QK, eQ, hq⟩ := genq (P := WX11_in x2 0 6) hw
    clear hw
    have hPc := hP.sub (ws' := []) [] rfl
    have hDc := hD.sub (ws' := []) [] (by decide) rfl
    have hFc := va_free (wc := []) hD hS hA [] rfl
    refine va_calli (va_runS (As := [.int x2, .int 0, .int 6]) (rest := []) ⟨hx, hb, hml, hown, hts⟩ (MX11_in l D cyI cyZ cyC ro ce cin ad    H.size x2 0 6 QK  hq) (va_cwS 3 hts gX11_as_X11_in rfl rfl rfl dmX11_in ⟨Nat.le_of_ble_eq_true rfl, Nat.le_of_ble_eq_true rfl⟩) ⟨pre_bl, fun U hU hW => ⟨rfl, pre_of hX hS hK hPc hDc hFc hU hW⟩⟩ rfl rfl hl.1 rfl (lv_room (Nat.le_of_ble_eq_true rfl)) dX11_as_12 ⟨Nat.zero_le _, Nat.zero_le _⟩) hS (fun q _ h => hFc q h) hFc (fun r3 u t H1 locs ht hvm hw hB hz1 hk1 hS => ?_)
    replace hw : QK r3 := hw
    clear hq
    subst eQ
    obtain ⟨hP1, hD1⟩ := hB
    rw [ht] at hP1
    obtain ⟨hP, hD⟩ := va_join (wr := [(a_t, .inr (10, [w_t_thrown, .ref a_t_s, w_t_image, w_t_hasImage, w_t_act, w_t_spot, w_t_end, w_t_isWrong, w_t_open, w_t_readMany, w_t_readSpan, w_t_readSum, w_t_readOdds, w_t_readBank, w_t_readMill, w_t_readLevel, w_t_levels, w_t_boardsNow, w_t_ways, w_t_nexts, w_t_hourNow, w_t_staying, w_t_leftCard, w_t_leftLine, w_t_isMute, w_t_higher, w_t_over, w_t_dry, w_t_truths, w_t_failHours, w_t_failRow, w_t_keptBoards, w_t_keptHung, w_t_bodies, w_t_ran, w_t_kind, w_t_number, w_t_tellsV])), (a_t_s, .inl (cyI, 1454, .inl f_t_s))]) (w1 := []) hP hD [] [0, 1] rfl rfl (by decide) (by decide) hk1 hFc hP1 hD1
    clear hPc hDc hFc hk1 hz1 hP1 hD1 ht hvm
    generalize H1 = H at hP hS ⊢
    replace hP : va_P D vwCl [(a_t, .inr (10, [w_t_thrown, .ref a_t_s, w_t_image, w_t_hasImage, w_t_act, w_t_spot, w_t_end, w_t_isWrong, w_t_open, w_t_readMany, w_t_readSpan, w_t_readSum, w_t_readOdds, w_t_readBank, w_t_readMill, w_t_readLevel, w_t_levels, w_t_boardsNow, w_t_ways, w_t_nexts, w_t_hourNow, w_t_staying, w_t_leftCard, w_t_leftLine, w_t_isMute, w_t_higher, w_t_over, w_t_dry, w_t_truths, w_t_failHours, w_t_failRow, w_t_keptBoards, w_t_keptHung, w_t_bodies, w_t_ran, w_t_kind, w_t_number, w_t_tellsV])), (a_t_s, .inl (cyI, 1454, .inl f_t_s))] H := hP
    replace hD : va_D A [(a_t, .inr (10, [w_t_thrown, .ref a_t_s, w_t_image, w_t_hasImage, w_t_act, w_t_spot, w_t_end, w_t_isWrong, w_t_open, w_t_readMany, w_t_readSpan, w_t_readSum, w_t_readOdds, w_t_readBank, w_t_readMill, w_t_readLevel, w_t_levels, w_t_boardsNow, w_t_ways, w_t_nexts, w_t_hourNow, w_t_staying, w_t_leftCard, w_t_leftLine, w_t_isMute, w_t_higher, w_t_over, w_t_dry, w_t_truths, w_t_failHours, w_t_failRow, w_t_keptBoards, w_t_keptHung, w_t_bodies, w_t_ran, w_t_kind, w_t_number, w_t_tellsV])), (a_t_s, .inl (cyI, 1454, .inl f_t_s))] := hD
    refine lv_if_ne (tgt := 20) hx hb dX11_as_15 (by decide) (fun c4 => ?_) (fun c4 => ?_)
    · replace hw := hw.2 c4
      refine lv_aload_n hx hb dX11_as_20 rfl (lv_at hl 0 rfl) ?_
      refine va_get (D := D) (ci := 10) (v := .ref a_t_s) (C := RX11) (T := TX11) (N := 38) hx hb hts inX11_as_X11 hown hK hP 0 rfl rfl 1 (by decide) (hts _ (List.mem_of_getElem? (i := 1) rfl)) (fun _ h9 => h9) rfl dX11_as_21 ?_
      refine lv_sipush (v := 158) hx hb dX11_as_24 (by decide) ?_
      refine lv_iload_n hx hb dX11_as_27 rfl (lv_at hl 1 rfl) ?_
      refine lv_iadd hx hb dX11_as_28 ?_
      have h5 := hw.1
      replace hw := hw.2
      refine va_iald hx hb hK hP 1 0 rfl rfl h5 dX11_as_29 ?_
      refine lv_iload_n hx hb dX11_as_30 rfl (lv_at hl 2 rfl) ?_
      obtain ⟨QK, eQ, hq⟩ := genq (P := WX11_isUnder (f_t_s (158 + x1).toNatClampNeg) x2) hw
      clear hw
      have hPc := hP.sub (ws' := []) [] rfl
      have hDc := hD.sub (ws' := []) [] (by decide) rfl
      have hFc := va_free (wc := []) hD hS hA [] rfl
      refine va_calli (va_runS (As := [.int (f_t_s (158 + x1).toNatClampNeg), .int x2]) (rest := []) ⟨hx, hb, hml, hown, hts⟩ (MX11_isUnder l D cyI cyZ cyC ro ce cin ad    H.size (f_t_s (158 + x1).toNatClampNeg) x2 QK  hq) (va_cwS 2 hts gX11_as_X11_isUnder rfl rfl rfl dmX11_isUnder ⟨Nat.le_of_ble_eq_true rfl, Nat.le_of_ble_eq_true rfl⟩) ⟨pre_bl, fun U hU hW => ⟨rfl, pre_of hX hS hK hPc hDc hFc hU hW⟩⟩ rfl rfl hl.1 rfl (lv_room (Nat.le_of_ble_eq_true rfl)) dX11_as_31 ⟨Nat.zero_le _, Nat.zero_le _⟩) hS (fun q _ h => hFc q h) hFc (fun r6 u t H1 locs ht hvm hw hB hz1 hk1 hS => ?_)
      replace hw : QK r6 := hw
      clear hq
      subst eQ
      obtain ⟨hP1, hD1⟩ := hB
      rw [ht] at hP1
      obtain ⟨hP, hD⟩ := va_join (wr := [(a_t, .inr (10, [w_t_thrown, .ref a_t_s, w_t_image, w_t_hasImage, w_t_act, w_t_spot, w_t_end, w_t_isWrong, w_t_open, w_t_readMany, w_t_readSpan, w_t_readSum, w_t_readOdds, w_t_readBank, w_t_readMill, w_t_readLevel, w_t_levels, w_t_boardsNow, w_t_ways, w_t_nexts, w_t_hourNow, w_t_staying, w_t_leftCard, w_t_leftLine, w_t_isMute, w_t_higher, w_t_over, w_t_dry, w_t_truths, w_t_failHours, w_t_failRow, w_t_keptBoards, w_t_keptHung, w_t_bodies, w_t_ran, w_t_kind, w_t_number, w_t_tellsV])), (a_t_s, .inl (cyI, 1454, .inl f_t_s))]) (w1 := []) hP hD [] [0, 1] rfl rfl (by decide) (by decide) hk1 hFc hP1 hD1
      clear hPc hDc hFc hk1 hz1 hP1 hD1 ht hvm
      generalize H1 = H at hP hS ⊢
      replace hP : va_P D vwCl [(a_t, .inr (10, [w_t_thrown, .ref a_t_s, w_t_image, w_t_hasImage, w_t_act, w_t_spot, w_t_end, w_t_isWrong, w_t_open, w_t_readMany, w_t_readSpan, w_t_readSum, w_t_readOdds, w_t_readBank, w_t_readMill, w_t_readLevel, w_t_levels, w_t_boardsNow, w_t_ways, w_t_nexts, w_t_hourNow, w_t_staying, w_t_leftCard, w_t_leftLine, w_t_isMute, w_t_higher, w_t_over, w_t_dry, w_t_truths, w_t_failHours, w_t_failRow, w_t_keptBoards, w_t_keptHung, w_t_bodies, w_t_ran, w_t_kind, w_t_number, w_t_tellsV])), (a_t_s, .inl (cyI, 1454, .inl f_t_s))] H := hP
      replace hD : va_D A [(a_t, .inr (10, [w_t_thrown, .ref a_t_s, w_t_image, w_t_hasImage, w_t_act, w_t_spot, w_t_end, w_t_isWrong, w_t_open, w_t_readMany, w_t_readSpan, w_t_readSum, w_t_readOdds, w_t_readBank, w_t_readMill, w_t_readLevel, w_t_levels, w_t_boardsNow, w_t_ways, w_t_nexts, w_t_hourNow, w_t_staying, w_t_leftCard, w_t_leftLine, w_t_isMute, w_t_higher, w_t_over, w_t_dry, w_t_truths, w_t_failHours, w_t_failRow, w_t_keptBoards, w_t_keptHung, w_t_bodies, w_t_ran, w_t_kind, w_t_number, w_t_tellsV])), (a_t_s, .inl (cyI, 1454, .inl f_t_s))] := hD
      refine lv_if_eq (tgt := 50) hx hb dX11_as_34 (by decide) (fun c7 => ?_) (fun c7 => ?_)
      · replace hw := hw.1 c7
        refine lv_bipush (v := (-6)) hx hb dX11_as_50 (by decide) ?_
        exact W.iret (v := (-6)) hx hb hr (fun t ht hW => ⟨⟨(-6), (), rfl, hw, post_mk ht hP hD⟩, hS.F ht⟩) hS.2.2 dX11_as_52 hlocks
      · replace hw := hw.2 c7
        refine lv_aload_n hx hb dX11_as_37 rfl (lv_at hl 0 rfl) ?_
        refine va_get (D := D) (ci := 10) (v := .ref a_t_s) (C := RX11) (T := TX11) (N := 38) hx hb hts inX11_as_X11 hown hK hP 0 rfl rfl 1 (by decide) (hts _ (List.mem_of_getElem? (i := 1) rfl)) (fun _ h9 => h9) rfl dX11_as_38 ?_
        refine lv_sipush (v := 166) hx hb dX11_as_41 (by decide) ?_
        refine lv_iload_n hx hb dX11_as_44 rfl (lv_at hl 1 rfl) ?_
        refine lv_iadd hx hb dX11_as_45 ?_
        have h8 := hw.1
        replace hw := hw.2
        refine va_iald hx hb hK hP 1 0 rfl rfl h8 dX11_as_46 ?_
        refine lv_goto (tgt := 52) hx hb dX11_as_47 (by decide) ?_
        exact W.iret (v := f_t_s (166 + x1).toNatClampNeg) hx hb hr (fun t ht hW => ⟨⟨f_t_s (166 + x1).toNatClampNeg, (), rfl, hw, post_mk ht hP hD⟩, hS.F ht⟩) hS.2.2 dX11_as_52 hlocks
    · replace hw := hw.1 c4
      refine lv_iconst (v := (-1)) hx hb dX11_as_18 (by decide) ?_
      exact W.iret (v := (-1)) hx hb hr (fun t ht hW => ⟨⟨(-1), (), rfl, hw, post_mk ht hP hD⟩, hS.F ht⟩) hS.2.2 dX11_as_19 hlocks
set_option maxHeartbeats 8000000 in
set_option maxRecDepth 100000 in
theorem MX11_image (l : Launch) (D : va_G) (cyI cyZ cyC : ClassId) (ro : va_W) (ce : Nat → CT) (cin : Nat → Prop) (ad : AD) (a_t a_t_s a_t_image : Nat) (w_t_thrown w_t_act w_t_spot w_t_end w_t_isWrong w_t_open w_t_readMany w_t_readSpan w_t_readSum w_t_readOdds w_t_readBank w_t_readMill w_t_readLevel w_t_levels w_t_boardsNow w_t_ways w_t_nexts w_t_hourNow w_t_staying w_t_leftCard w_t_leftLine w_t_isMute w_t_higher w_t_over w_t_dry w_t_truths w_t_failHours w_t_failRow w_t_keptBoards w_t_keptHung w_t_bodies w_t_ran w_t_kind w_t_number w_t_tellsV : Value) (sz : Nat) (i_t_hasImage : Int32) (f_t_s : Nat → Int32) (f_t_image : Nat → Int32) (Q : Int32 → Int32 → (Nat → Int32) → Prop)  (hw : WX11_image i_t_hasImage f_t_s f_t_image Q) : Met l yX11_image wsX11_image ({ frames := 0, cells := 0, slots := 0, locals := 0 }) (va_Pc [.ref a_t] (PRE D cyI cyZ cyC ro ce cin ad (SX11_image cyI cyZ cyC a_t a_t_s a_t_image w_t_thrown w_t_act w_t_spot w_t_end w_t_isWrong w_t_open w_t_readMany w_t_readSpan w_t_readSum w_t_readOdds w_t_readBank w_t_readMill w_t_readLevel w_t_levels w_t_boardsNow w_t_ways w_t_nexts w_t_hourNow w_t_staying w_t_leftCard w_t_leftLine w_t_isMute w_t_higher w_t_over w_t_dry w_t_truths w_t_failHours w_t_failRow w_t_keptBoards w_t_keptHung w_t_bodies w_t_ran w_t_kind w_t_number w_t_tellsV  i_t_hasImage f_t_s f_t_image) sz)) (va_Qi (fun (r : Int32) (u : Int32 × (Nat → Int32)) => Q r u.1 u.2) (fun (u : Int32 × (Nat → Int32)) (t : State) => POST D (va_A (SX11_image cyI cyZ cyC a_t a_t_s a_t_image w_t_thrown w_t_act w_t_spot w_t_end w_t_isWrong w_t_open w_t_readMany w_t_readSpan w_t_readSum w_t_readOdds w_t_readBank w_t_readMill w_t_readLevel w_t_levels w_t_boardsNow w_t_ways w_t_nexts w_t_hourNow w_t_staying w_t_leftCard w_t_leftLine w_t_isMute w_t_higher w_t_over w_t_dry w_t_truths w_t_failHours w_t_failRow w_t_keptBoards w_t_keptHung w_t_bodies w_t_ran w_t_kind w_t_number w_t_tellsV  i_t_hasImage f_t_s f_t_image) sz) (SX11_image cyI cyZ cyC a_t a_t_s a_t_image w_t_thrown w_t_act w_t_spot w_t_end w_t_isWrong w_t_open w_t_readMany w_t_readSpan w_t_readSum w_t_readOdds w_t_readBank w_t_readMill w_t_readLevel w_t_levels w_t_boardsNow w_t_ways w_t_nexts w_t_hourNow w_t_staying w_t_leftCard w_t_leftLine w_t_isMute w_t_higher w_t_over w_t_dry w_t_truths w_t_failHours w_t_failRow w_t_keptBoards w_t_keptHung w_t_bodies w_t_ran w_t_kind w_t_number w_t_tellsV  u.1 f_t_s u.2) t) (va_A (SX11_image cyI cyZ cyC a_t a_t_s a_t_image w_t_thrown w_t_act w_t_spot w_t_end w_t_isWrong w_t_open w_t_readMany w_t_readSpan w_t_readSum w_t_readOdds w_t_readBank w_t_readMill w_t_readLevel w_t_levels w_t_boardsNow w_t_ways w_t_nexts w_t_hourNow w_t_staying w_t_leftCard w_t_leftLine w_t_isMute w_t_higher w_t_over w_t_dry w_t_truths w_t_failHours w_t_failRow w_t_keptBoards w_t_keptHung w_t_bodies w_t_ran w_t_kind w_t_number w_t_tellsV  i_t_hasImage f_t_s f_t_image) sz)) 0 0 (va_A (SX11_image cyI cyZ cyC a_t a_t_s a_t_image w_t_thrown w_t_act w_t_spot w_t_end w_t_isWrong w_t_open w_t_readMany w_t_readSpan w_t_readSum w_t_readOdds w_t_readBank w_t_readMill w_t_readLevel w_t_levels w_t_boardsNow w_t_ways w_t_nexts w_t_hourNow w_t_staying w_t_leftCard w_t_leftLine w_t_isMute w_t_higher w_t_over w_t_dry w_t_truths w_t_failHours w_t_failRow w_t_keptBoards w_t_keptHung w_t_bodies w_t_ran w_t_kind w_t_number w_t_tellsV  i_t_hasImage f_t_s f_t_image) sz) := by
  refine Met.ofW (cc := cX11_image) (maxL := 2) (ret := (some .int)) (by decide +kernel) rfl ?_
  intro p e s m args below meth c s₁ B hml hv
  obtain ⟨rfl, hsz, hP, hK, hD0, hX⟩ := hv
  have hx := B.exec
  have hb := B.bytes
  have hr := B.returns
  have hts := atoms_spec (ws := wsX11_image) B.pre
  have hown : s.vm.findClass RX11 = some m.cls := findClass_of_methodNamed B.named
  have hlocks := B.notSynchronized
  clear B
  subst hsz
  have hD := hD0.self (sz := s.heap.size)
  clear hD0
  generalize hAe : va_A (SX11_image cyI cyZ cyC a_t a_t_s a_t_image w_t_thrown w_t_act w_t_spot w_t_end w_t_isWrong w_t_open w_t_readMany w_t_readSpan w_t_readSum w_t_readOdds w_t_readBank w_t_readMill w_t_readLevel w_t_levels w_t_boardsNow w_t_ways w_t_nexts w_t_hourNow w_t_staying w_t_leftCard w_t_leftLine w_t_isMute w_t_higher w_t_over w_t_dry w_t_truths w_t_failHours w_t_failRow w_t_keptBoards w_t_keptHung w_t_bodies w_t_ran w_t_kind w_t_number w_t_tellsV  i_t_hasImage f_t_s f_t_image) s.heap.size = A at hD hX ⊢
  have hA : ∀ q : Nat, s.heap.size ≤ q → A q := fun q h => by rw [← hAe]; exact Or.inr h
  clear hAe
  obtain ⟨H, hH⟩ : ∃ H, H = s.heap := ⟨_, rfl⟩
  rw [← hH] at hP ⊢
  have hS : va_S A s.heap H [] := by rw [hH]; exact va_S.rf
  clear hH
  replace hP : va_P D vwCl [(a_t, .inr (10, [w_t_thrown, .ref a_t_s, .ref a_t_image, .int i_t_hasImage, w_t_act, w_t_spot, w_t_end, w_t_isWrong, w_t_open, w_t_readMany, w_t_readSpan, w_t_readSum, w_t_readOdds, w_t_readBank, w_t_readMill, w_t_readLevel, w_t_levels, w_t_boardsNow, w_t_ways, w_t_nexts, w_t_hourNow, w_t_staying, w_t_leftCard, w_t_leftLine, w_t_isMute, w_t_higher, w_t_over, w_t_dry, w_t_truths, w_t_failHours, w_t_failRow, w_t_keptBoards, w_t_keptHung, w_t_bodies, w_t_ran, w_t_kind, w_t_number, w_t_tellsV])), (a_t_s, .inl (cyI, 1454, .inl f_t_s)), (a_t_image, .inl (cyI, 1454, .inl f_t_image))] H := hP
  replace hD : va_D A [(a_t, .inr (10, [w_t_thrown, .ref a_t_s, .ref a_t_image, .int i_t_hasImage, w_t_act, w_t_spot, w_t_end, w_t_isWrong, w_t_open, w_t_readMany, w_t_readSpan, w_t_readSum, w_t_readOdds, w_t_readBank, w_t_readMill, w_t_readLevel, w_t_levels, w_t_boardsNow, w_t_ways, w_t_nexts, w_t_hourNow, w_t_staying, w_t_leftCard, w_t_leftLine, w_t_isMute, w_t_higher, w_t_over, w_t_dry, w_t_truths, w_t_failHours, w_t_failRow, w_t_keptBoards, w_t_keptHung, w_t_bodies, w_t_ran, w_t_kind, w_t_number, w_t_tellsV])), (a_t_s, .inl (cyI, 1454, .inl f_t_s)), (a_t_image, .inl (cyI, 1454, .inl f_t_image))] := hD
  have hl := lv_entry ([.ref a_t]) (n := 2) (Nat.le_of_ble_eq_true rfl)
  rw [lg_entry_eq]
  generalize (lg_sl ([.ref a_t]) ++ List.replicate (2 - (lg_sl ([.ref a_t])).length) Slot.unset).toArray = ls at hl ⊢
  replace hl : lv_has ls 2 [(0, .ref a_t)] := hl
  have B27 : ∀ (i_t_hasImage : Int32) (f_t_image : Nat → Int32), WX11_image_27 f_t_s i_t_hasImage f_t_image Q  → ∀ (H : Heap) (locs : List Loc), va_P D vwCl [(a_t, .inr (10, [w_t_thrown, .ref a_t_s, .ref a_t_image, .int i_t_hasImage, w_t_act, w_t_spot, w_t_end, w_t_isWrong, w_t_open, w_t_readMany, w_t_readSpan, w_t_readSum, w_t_readOdds, w_t_readBank, w_t_readMill, w_t_readLevel, w_t_levels, w_t_boardsNow, w_t_ways, w_t_nexts, w_t_hourNow, w_t_staying, w_t_leftCard, w_t_leftLine, w_t_isMute, w_t_higher, w_t_over, w_t_dry, w_t_truths, w_t_failHours, w_t_failRow, w_t_keptBoards, w_t_keptHung, w_t_bodies, w_t_ran, w_t_kind, w_t_number, w_t_tellsV])), (a_t_s, .inl (cyI, 1454, .inl f_t_s)), (a_t_image, .inl (cyI, 1454, .inl f_t_image))] H → va_D A [(a_t, .inr (10, [w_t_thrown, .ref a_t_s, .ref a_t_image, .int i_t_hasImage, w_t_act, w_t_spot, w_t_end, w_t_isWrong, w_t_open, w_t_readMany, w_t_readSpan, w_t_readSum, w_t_readOdds, w_t_readBank, w_t_readMill, w_t_readLevel, w_t_levels, w_t_boardsNow, w_t_ways, w_t_nexts, w_t_hourNow, w_t_staying, w_t_leftCard, w_t_leftLine, w_t_isMute, w_t_higher, w_t_over, w_t_dry, w_t_truths, w_t_failHours, w_t_failRow, w_t_keptBoards, w_t_keptHung, w_t_bodies, w_t_ran, w_t_kind, w_t_number, w_t_tellsV])), (a_t_s, .inl (cyI, 1454, .inl f_t_s)), (a_t_image, .inl (cyI, 1454, .inl f_t_image))] → va_S A s.heap H locs → ∀ (ls : Array Slot), lv_has ls 2 [(0, .ref a_t)] → W p l e { frames := 0, cells := 0, slots := 0, locals := 0 } s m ([.ref a_t] : List Value).toArray below meth c H locs 0 0 (MQ below (va_Qi (fun (r : Int32) (u : Int32 × (Nat → Int32)) => Q r u.1 u.2) (fun (u : Int32 × (Nat → Int32)) (t : State) => POST D A (SX11_image cyI cyZ cyC a_t a_t_s a_t_image w_t_thrown w_t_act w_t_spot w_t_end w_t_isWrong w_t_open w_t_readMany w_t_readSpan w_t_readSum w_t_readOdds w_t_readBank w_t_readMill w_t_readLevel w_t_levels w_t_boardsNow w_t_ways w_t_nexts w_t_hourNow w_t_staying w_t_leftCard w_t_leftLine w_t_isMute w_t_higher w_t_over w_t_dry w_t_truths w_t_failHours w_t_failRow w_t_keptBoards w_t_keptHung w_t_bodies w_t_ran w_t_kind w_t_number w_t_tellsV  u.1 f_t_s u.2) t) A) ([.ref a_t] : List Value).toArray s 0 0 A) (F0 m 27 ls []) := by
    intro i_t_hasImage f_t_image hw H locs hP hD hS ls hl
    unfold WX11_image_27 at hw
    refine lv_aload_n hx hb dX11_image_27 rfl (lv_at hl 0 rfl) ?_
    refine lv_iconst (v := 1) hx hb dX11_image_28 (by decide) ?_
    refine va_put (D := D) (ci := 10) (v := .int 1) (ty := .boolean) (C := RX11) (T := TX11) (N := 38) hx hb hts inX11_image_X11 tyX11 tyX11_ok nmX11 hown hK hP hD hS 0 rfl rfl 3 (by decide) (hts _ (List.mem_of_getElem? (i := 3) rfl)) (fun _ h9 => h9) rfl (tyX11_ok 3 (by decide)) rfl rfl (Nat.le_of_ble_eq_true rfl) dX11_image_29 (fun H locs hP hD hS => ?_)
    replace hP : va_P D vwCl [(a_t, .inr (10, [w_t_thrown, .ref a_t_s, .ref a_t_image, .int 1, w_t_act, w_t_spot, w_t_end, w_t_isWrong, w_t_open, w_t_readMany, w_t_readSpan, w_t_readSum, w_t_readOdds, w_t_readBank, w_t_readMill, w_t_readLevel, w_t_levels, w_t_boardsNow, w_t_ways, w_t_nexts, w_t_hourNow, w_t_staying, w_t_leftCard, w_t_leftLine, w_t_isMute, w_t_higher, w_t_over, w_t_dry, w_t_truths, w_t_failHours, w_t_failRow, w_t_keptBoards, w_t_keptHung, w_t_bodies, w_t_ran, w_t_kind, w_t_number, w_t_tellsV])), (a_t_s, .inl (cyI, 1454, .inl f_t_s)), (a_t_image, .inl (cyI, 1454, .inl f_t_image))] H := hP
    replace hD : va_D A [(a_t, .inr (10, [w_t_thrown, .ref a_t_s, .ref a_t_image, .int 1, w_t_act, w_t_spot, w_t_end, w_t_isWrong, w_t_open, w_t_readMany, w_t_readSpan, w_t_readSum, w_t_readOdds, w_t_readBank, w_t_readMill, w_t_readLevel, w_t_levels, w_t_boardsNow, w_t_ways, w_t_nexts, w_t_hourNow, w_t_staying, w_t_leftCard, w_t_leftLine, w_t_isMute, w_t_higher, w_t_over, w_t_dry, w_t_truths, w_t_failHours, w_t_failRow, w_t_keptBoards, w_t_keptHung, w_t_bodies, w_t_ran, w_t_kind, w_t_number, w_t_tellsV])), (a_t_s, .inl (cyI, 1454, .inl f_t_s)), (a_t_image, .inl (cyI, 1454, .inl f_t_image))] := hD
    refine lv_aload_n hx hb dX11_image_32 rfl (lv_at hl 0 rfl) ?_
    refine va_get (D := D) (ci := 10) (v := .ref a_t_s) (C := RX11) (T := TX11) (N := 38) hx hb hts inX11_image_X11 hown hK hP 0 rfl rfl 1 (by decide) (hts _ (List.mem_of_getElem? (i := 2) rfl)) (fun _ h9 => h9) rfl dX11_image_33 ?_
    refine lv_iconst (v := 5) hx hb dX11_image_36 (by decide) ?_
    refine va_iald hx hb hK hP 1 0 rfl rfl (vpc rfl) dX11_image_37 ?_
    exact W.iret (v := f_t_s (5 : Int32).toNatClampNeg) hx hb hr (fun t ht hW => ⟨⟨f_t_s (5 : Int32).toNatClampNeg, (1, f_t_image), rfl, hw, post_mk ht hP hD⟩, hS.F ht⟩) hS.2.2 dX11_image_38 hlocks
  have B2 : ∀ (n2 : Nat), ∀ (x1 : Int32) (i_t_hasImage : Int32) (f_t_image : Nat → Int32), WX11_image_2 f_t_s Q  n2 x1 i_t_hasImage f_t_image → ∀ (H : Heap) (locs : List Loc), va_P D vwCl [(a_t, .inr (10, [w_t_thrown, .ref a_t_s, .ref a_t_image, .int i_t_hasImage, w_t_act, w_t_spot, w_t_end, w_t_isWrong, w_t_open, w_t_readMany, w_t_readSpan, w_t_readSum, w_t_readOdds, w_t_readBank, w_t_readMill, w_t_readLevel, w_t_levels, w_t_boardsNow, w_t_ways, w_t_nexts, w_t_hourNow, w_t_staying, w_t_leftCard, w_t_leftLine, w_t_isMute, w_t_higher, w_t_over, w_t_dry, w_t_truths, w_t_failHours, w_t_failRow, w_t_keptBoards, w_t_keptHung, w_t_bodies, w_t_ran, w_t_kind, w_t_number, w_t_tellsV])), (a_t_s, .inl (cyI, 1454, .inl f_t_s)), (a_t_image, .inl (cyI, 1454, .inl f_t_image))] H → va_D A [(a_t, .inr (10, [w_t_thrown, .ref a_t_s, .ref a_t_image, .int i_t_hasImage, w_t_act, w_t_spot, w_t_end, w_t_isWrong, w_t_open, w_t_readMany, w_t_readSpan, w_t_readSum, w_t_readOdds, w_t_readBank, w_t_readMill, w_t_readLevel, w_t_levels, w_t_boardsNow, w_t_ways, w_t_nexts, w_t_hourNow, w_t_staying, w_t_leftCard, w_t_leftLine, w_t_isMute, w_t_higher, w_t_over, w_t_dry, w_t_truths, w_t_failHours, w_t_failRow, w_t_keptBoards, w_t_keptHung, w_t_bodies, w_t_ran, w_t_kind, w_t_number, w_t_tellsV])), (a_t_s, .inl (cyI, 1454, .inl f_t_s)), (a_t_image, .inl (cyI, 1454, .inl f_t_image))] → va_S A s.heap H locs → ∀ (ls : Array Slot), lv_has ls 2 [(0, .ref a_t), (1, .int x1)] → W p l e { frames := 0, cells := 0, slots := 0, locals := 0 } s m ([.ref a_t] : List Value).toArray below meth c H locs 0 0 (MQ below (va_Qi (fun (r : Int32) (u : Int32 × (Nat → Int32)) => Q r u.1 u.2) (fun (u : Int32 × (Nat → Int32)) (t : State) => POST D A (SX11_image cyI cyZ cyC a_t a_t_s a_t_image w_t_thrown w_t_act w_t_spot w_t_end w_t_isWrong w_t_open w_t_readMany w_t_readSpan w_t_readSum w_t_readOdds w_t_readBank w_t_readMill w_t_readLevel w_t_levels w_t_boardsNow w_t_ways w_t_nexts w_t_hourNow w_t_staying w_t_leftCard w_t_leftLine w_t_isMute w_t_higher w_t_over w_t_dry w_t_truths w_t_failHours w_t_failRow w_t_keptBoards w_t_keptHung w_t_bodies w_t_ran w_t_kind w_t_number w_t_tellsV  u.1 f_t_s u.2) t) A) ([.ref a_t] : List Value).toArray s 0 0 A) (F0 m 2 ls []) := by
    intro n2
    induction n2 with
    | zero => intro x1 i_t_hasImage f_t_image hw; exact (show False from hw).elim
    | succ n2 ih2 =>
      intro x1 i_t_hasImage f_t_image hw H locs hP hD hS ls hl
      unfold WX11_image_2 at hw
      refine lv_iload_n hx hb dX11_image_2 rfl (lv_at hl 1 rfl) ?_
      refine lv_sipush (v := 1454) hx hb dX11_image_3 (by decide) ?_
      refine lv_icmp_ge (tgt := 27) hx hb dX11_image_6 (by decide) (fun c1 => ?_) (fun c1 => ?_)
      · replace hw := hw.1 c1
        exact B27 i_t_hasImage f_t_image hw _ _ hP hD hS _ (lv_sub hl [0] rfl)
      · replace hw := hw.2 c1
        refine lv_aload_n hx hb dX11_image_9 rfl (lv_at hl 0 rfl) ?_
        refine va_get (D := D) (ci := 10) (v := .ref a_t_image) (C := RX11) (T := TX11) (N := 38) hx hb hts inX11_image_X11 hown hK hP 0 rfl rfl 2 (by decide) (hts _ (List.mem_of_getElem? (i := 1) rfl)) (fun _ h9 => h9) rfl dX11_image_10 ?_
        refine lv_iload_n hx hb dX11_image_13 rfl (lv_at hl 1 rfl) ?_
        refine lv_aload_n hx hb dX11_image_14 rfl (lv_at hl 0 rfl) ?_
        refine va_get (D := D) (ci := 10) (v := .ref a_t_s) (C := RX11) (T := TX11) (N := 38) hx hb hts inX11_image_X11 hown hK hP 0 rfl rfl 1 (by decide) (hts _ (List.mem_of_getElem? (i := 2) rfl)) (fun _ h9 => h9) rfl dX11_image_15 ?_
        refine lv_iload_n hx hb dX11_image_18 rfl (lv_at hl 1 rfl) ?_
        have h2 := hw.1
        replace hw := hw.2
        refine va_iald hx hb hK hP 1 0 rfl rfl h2 dX11_image_19 ?_
        refine lv_topi (fun y3 ey3 => ?_)
        replace hw := hw y3 ey3
        have h4 := hw.1
        replace hw := hw.2
        refine va_iast hx hb hK hP hD hS 2 0 rfl rfl h4 dX11_image_20 (fun H locs hP hD hS => ?_)
        replace hP : va_P D vwCl [(a_t, .inr (10, [w_t_thrown, .ref a_t_s, .ref a_t_image, .int i_t_hasImage, w_t_act, w_t_spot, w_t_end, w_t_isWrong, w_t_open, w_t_readMany, w_t_readSpan, w_t_readSum, w_t_readOdds, w_t_readBank, w_t_readMill, w_t_readLevel, w_t_levels, w_t_boardsNow, w_t_ways, w_t_nexts, w_t_hourNow, w_t_staying, w_t_leftCard, w_t_leftLine, w_t_isMute, w_t_higher, w_t_over, w_t_dry, w_t_truths, w_t_failHours, w_t_failRow, w_t_keptBoards, w_t_keptHung, w_t_bodies, w_t_ran, w_t_kind, w_t_number, w_t_tellsV])), (a_t_s, .inl (cyI, 1454, .inl f_t_s)), (a_t_image, .inl (cyI, 1454, .inl (upd f_t_image x1.toNatClampNeg y3)))] H := hP
        replace hD : va_D A [(a_t, .inr (10, [w_t_thrown, .ref a_t_s, .ref a_t_image, .int i_t_hasImage, w_t_act, w_t_spot, w_t_end, w_t_isWrong, w_t_open, w_t_readMany, w_t_readSpan, w_t_readSum, w_t_readOdds, w_t_readBank, w_t_readMill, w_t_readLevel, w_t_levels, w_t_boardsNow, w_t_ways, w_t_nexts, w_t_hourNow, w_t_staying, w_t_leftCard, w_t_leftLine, w_t_isMute, w_t_higher, w_t_over, w_t_dry, w_t_truths, w_t_failHours, w_t_failRow, w_t_keptBoards, w_t_keptHung, w_t_bodies, w_t_ran, w_t_kind, w_t_number, w_t_tellsV])), (a_t_s, .inl (cyI, 1454, .inl f_t_s)), (a_t_image, .inl (cyI, 1454, .inl (upd f_t_image x1.toNatClampNeg y3)))] := hD
        obtain ⟨y5, ey5⟩ : ∃ y : Int32, y = x1 + 1 := ⟨_, rfl⟩
        replace hw := hw y5 ey5
        refine lv_iinc (v := y5) (lv' := [(1, .int y5), (0, .ref a_t)]) hx hb dX11_image_21 hl (k := 1) rfl (by rw [ey5]; rfl) (by decide) rfl (fun ls hl => ?_)
        refine lv_goto (tgt := 2) hx hb dX11_image_24 (by decide) ?_
        exact ih2 y5 i_t_hasImage (upd f_t_image x1.toNatClampNeg y3) hw _ _ hP hD hS _ (lv_sub hl [1, 0] rfl)
  unfold WX11_image at hw
  refine lv_iconst (v := 0) hx hb dX11_image_0 (by decide) ?_
  refine lv_istore_n (lv' := [(1, .int 0), (0, .ref a_t)]) hx hb dX11_image_1 rfl hl (by decide) rfl (fun ls hl => ?_)
  obtain ⟨nn, hw⟩ := hw
  exact B2 nn 0 i_t_hasImage f_t_image hw _ _ hP hD hS _ (lv_sub hl [1, 0] rfl)
set_option maxHeartbeats 8000000 in
set_option maxRecDepth 100000 in
theorem MX11_undo (l : Launch) (D : va_G) (cyI cyZ cyC : ClassId) (ro : va_W) (ce : Nat → CT) (cin : Nat → Prop) (ad : AD) (a_t a_t_s a_t_image : Nat) (w_t_thrown w_t_act w_t_spot w_t_end w_t_isWrong w_t_open w_t_readMany w_t_readSpan w_t_readSum w_t_readOdds w_t_readBank w_t_readMill w_t_readLevel w_t_levels w_t_boardsNow w_t_ways w_t_nexts w_t_hourNow w_t_staying w_t_leftCard w_t_leftLine w_t_isMute w_t_higher w_t_over w_t_dry w_t_truths w_t_failHours w_t_failRow w_t_keptBoards w_t_keptHung w_t_bodies w_t_ran w_t_kind w_t_number w_t_tellsV : Value) (sz : Nat) (i_t_hasImage : Int32) (f_t_s : Nat → Int32) (f_t_image : Nat → Int32) (Q : Int32 → (Nat → Int32) → Prop)  (hw : WX11_undo i_t_hasImage f_t_s f_t_image Q) : Met l yX11_undo wsX11_undo ({ frames := 0, cells := 0, slots := 0, locals := 0 }) (va_Pc [.ref a_t] (PRE D cyI cyZ cyC ro ce cin ad (SX11_undo cyI cyZ cyC a_t a_t_s a_t_image w_t_thrown w_t_act w_t_spot w_t_end w_t_isWrong w_t_open w_t_readMany w_t_readSpan w_t_readSum w_t_readOdds w_t_readBank w_t_readMill w_t_readLevel w_t_levels w_t_boardsNow w_t_ways w_t_nexts w_t_hourNow w_t_staying w_t_leftCard w_t_leftLine w_t_isMute w_t_higher w_t_over w_t_dry w_t_truths w_t_failHours w_t_failRow w_t_keptBoards w_t_keptHung w_t_bodies w_t_ran w_t_kind w_t_number w_t_tellsV  i_t_hasImage f_t_s f_t_image) sz)) (va_Qi (fun (r : Int32) (u : (Nat → Int32)) => Q r u) (fun (u : (Nat → Int32)) (t : State) => POST D (va_A (SX11_undo cyI cyZ cyC a_t a_t_s a_t_image w_t_thrown w_t_act w_t_spot w_t_end w_t_isWrong w_t_open w_t_readMany w_t_readSpan w_t_readSum w_t_readOdds w_t_readBank w_t_readMill w_t_readLevel w_t_levels w_t_boardsNow w_t_ways w_t_nexts w_t_hourNow w_t_staying w_t_leftCard w_t_leftLine w_t_isMute w_t_higher w_t_over w_t_dry w_t_truths w_t_failHours w_t_failRow w_t_keptBoards w_t_keptHung w_t_bodies w_t_ran w_t_kind w_t_number w_t_tellsV  i_t_hasImage f_t_s f_t_image) sz) (SX11_undo cyI cyZ cyC a_t a_t_s a_t_image w_t_thrown w_t_act w_t_spot w_t_end w_t_isWrong w_t_open w_t_readMany w_t_readSpan w_t_readSum w_t_readOdds w_t_readBank w_t_readMill w_t_readLevel w_t_levels w_t_boardsNow w_t_ways w_t_nexts w_t_hourNow w_t_staying w_t_leftCard w_t_leftLine w_t_isMute w_t_higher w_t_over w_t_dry w_t_truths w_t_failHours w_t_failRow w_t_keptBoards w_t_keptHung w_t_bodies w_t_ran w_t_kind w_t_number w_t_tellsV  i_t_hasImage u f_t_image) t) (va_A (SX11_undo cyI cyZ cyC a_t a_t_s a_t_image w_t_thrown w_t_act w_t_spot w_t_end w_t_isWrong w_t_open w_t_readMany w_t_readSpan w_t_readSum w_t_readOdds w_t_readBank w_t_readMill w_t_readLevel w_t_levels w_t_boardsNow w_t_ways w_t_nexts w_t_hourNow w_t_staying w_t_leftCard w_t_leftLine w_t_isMute w_t_higher w_t_over w_t_dry w_t_truths w_t_failHours w_t_failRow w_t_keptBoards w_t_keptHung w_t_bodies w_t_ran w_t_kind w_t_number w_t_tellsV  i_t_hasImage f_t_s f_t_image) sz)) 0 0 (va_A (SX11_undo cyI cyZ cyC a_t a_t_s a_t_image w_t_thrown w_t_act w_t_spot w_t_end w_t_isWrong w_t_open w_t_readMany w_t_readSpan w_t_readSum w_t_readOdds w_t_readBank w_t_readMill w_t_readLevel w_t_levels w_t_boardsNow w_t_ways w_t_nexts w_t_hourNow w_t_staying w_t_leftCard w_t_leftLine w_t_isMute w_t_higher w_t_over w_t_dry w_t_truths w_t_failHours w_t_failRow w_t_keptBoards w_t_keptHung w_t_bodies w_t_ran w_t_kind w_t_number w_t_tellsV  i_t_hasImage f_t_s f_t_image) sz) := by
  refine Met.ofW (cc := cX11_undo) (maxL := 2) (ret := (some .int)) (by decide +kernel) rfl ?_
  intro p e s m args below meth c s₁ B hml hv
  obtain ⟨rfl, hsz, hP, hK, hD0, hX⟩ := hv
  have hx := B.exec
  have hb := B.bytes
  have hr := B.returns
  have hts := atoms_spec (ws := wsX11_undo) B.pre
  have hown : s.vm.findClass RX11 = some m.cls := findClass_of_methodNamed B.named
  have hlocks := B.notSynchronized
  clear B
  subst hsz
  have hD := hD0.self (sz := s.heap.size)
  clear hD0
  generalize hAe : va_A (SX11_undo cyI cyZ cyC a_t a_t_s a_t_image w_t_thrown w_t_act w_t_spot w_t_end w_t_isWrong w_t_open w_t_readMany w_t_readSpan w_t_readSum w_t_readOdds w_t_readBank w_t_readMill w_t_readLevel w_t_levels w_t_boardsNow w_t_ways w_t_nexts w_t_hourNow w_t_staying w_t_leftCard w_t_leftLine w_t_isMute w_t_higher w_t_over w_t_dry w_t_truths w_t_failHours w_t_failRow w_t_keptBoards w_t_keptHung w_t_bodies w_t_ran w_t_kind w_t_number w_t_tellsV  i_t_hasImage f_t_s f_t_image) s.heap.size = A at hD hX ⊢
  have hA : ∀ q : Nat, s.heap.size ≤ q → A q := fun q h => by rw [← hAe]; exact Or.inr h
  clear hAe
  obtain ⟨H, hH⟩ : ∃ H, H = s.heap := ⟨_, rfl⟩
  rw [← hH] at hP ⊢
  have hS : va_S A s.heap H [] := by rw [hH]; exact va_S.rf
  clear hH
  replace hP : va_P D vwCl [(a_t, .inr (10, [w_t_thrown, .ref a_t_s, .ref a_t_image, .int i_t_hasImage, w_t_act, w_t_spot, w_t_end, w_t_isWrong, w_t_open, w_t_readMany, w_t_readSpan, w_t_readSum, w_t_readOdds, w_t_readBank, w_t_readMill, w_t_readLevel, w_t_levels, w_t_boardsNow, w_t_ways, w_t_nexts, w_t_hourNow, w_t_staying, w_t_leftCard, w_t_leftLine, w_t_isMute, w_t_higher, w_t_over, w_t_dry, w_t_truths, w_t_failHours, w_t_failRow, w_t_keptBoards, w_t_keptHung, w_t_bodies, w_t_ran, w_t_kind, w_t_number, w_t_tellsV])), (a_t_s, .inl (cyI, 1454, .inl f_t_s)), (a_t_image, .inl (cyI, 1454, .inl f_t_image))] H := hP
  replace hD : va_D A [(a_t, .inr (10, [w_t_thrown, .ref a_t_s, .ref a_t_image, .int i_t_hasImage, w_t_act, w_t_spot, w_t_end, w_t_isWrong, w_t_open, w_t_readMany, w_t_readSpan, w_t_readSum, w_t_readOdds, w_t_readBank, w_t_readMill, w_t_readLevel, w_t_levels, w_t_boardsNow, w_t_ways, w_t_nexts, w_t_hourNow, w_t_staying, w_t_leftCard, w_t_leftLine, w_t_isMute, w_t_higher, w_t_over, w_t_dry, w_t_truths, w_t_failHours, w_t_failRow, w_t_keptBoards, w_t_keptHung, w_t_bodies, w_t_ran, w_t_kind, w_t_number, w_t_tellsV])), (a_t_s, .inl (cyI, 1454, .inl f_t_s)), (a_t_image, .inl (cyI, 1454, .inl f_t_image))] := hD
  have hl := lv_entry ([.ref a_t]) (n := 2) (Nat.le_of_ble_eq_true rfl)
  rw [lg_entry_eq]
  generalize (lg_sl ([.ref a_t]) ++ List.replicate (2 - (lg_sl ([.ref a_t])).length) Slot.unset).toArray = ls at hl ⊢
  replace hl : lv_has ls 2 [(0, .ref a_t)] := hl
  have B12 : ∀ (n12 : Nat), ∀ (x1 : Int32) (f_t_s : Nat → Int32), WX11_undo_12 i_t_hasImage f_t_image Q  n12 x1 f_t_s → ∀ (H : Heap) (locs : List Loc), va_P D vwCl [(a_t, .inr (10, [w_t_thrown, .ref a_t_s, .ref a_t_image, .int i_t_hasImage, w_t_act, w_t_spot, w_t_end, w_t_isWrong, w_t_open, w_t_readMany, w_t_readSpan, w_t_readSum, w_t_readOdds, w_t_readBank, w_t_readMill, w_t_readLevel, w_t_levels, w_t_boardsNow, w_t_ways, w_t_nexts, w_t_hourNow, w_t_staying, w_t_leftCard, w_t_leftLine, w_t_isMute, w_t_higher, w_t_over, w_t_dry, w_t_truths, w_t_failHours, w_t_failRow, w_t_keptBoards, w_t_keptHung, w_t_bodies, w_t_ran, w_t_kind, w_t_number, w_t_tellsV])), (a_t_s, .inl (cyI, 1454, .inl f_t_s)), (a_t_image, .inl (cyI, 1454, .inl f_t_image))] H → va_D A [(a_t, .inr (10, [w_t_thrown, .ref a_t_s, .ref a_t_image, .int i_t_hasImage, w_t_act, w_t_spot, w_t_end, w_t_isWrong, w_t_open, w_t_readMany, w_t_readSpan, w_t_readSum, w_t_readOdds, w_t_readBank, w_t_readMill, w_t_readLevel, w_t_levels, w_t_boardsNow, w_t_ways, w_t_nexts, w_t_hourNow, w_t_staying, w_t_leftCard, w_t_leftLine, w_t_isMute, w_t_higher, w_t_over, w_t_dry, w_t_truths, w_t_failHours, w_t_failRow, w_t_keptBoards, w_t_keptHung, w_t_bodies, w_t_ran, w_t_kind, w_t_number, w_t_tellsV])), (a_t_s, .inl (cyI, 1454, .inl f_t_s)), (a_t_image, .inl (cyI, 1454, .inl f_t_image))] → va_S A s.heap H locs → ∀ (ls : Array Slot), lv_has ls 2 [(0, .ref a_t), (1, .int x1)] → W p l e { frames := 0, cells := 0, slots := 0, locals := 0 } s m ([.ref a_t] : List Value).toArray below meth c H locs 0 0 (MQ below (va_Qi (fun (r : Int32) (u : (Nat → Int32)) => Q r u) (fun (u : (Nat → Int32)) (t : State) => POST D A (SX11_undo cyI cyZ cyC a_t a_t_s a_t_image w_t_thrown w_t_act w_t_spot w_t_end w_t_isWrong w_t_open w_t_readMany w_t_readSpan w_t_readSum w_t_readOdds w_t_readBank w_t_readMill w_t_readLevel w_t_levels w_t_boardsNow w_t_ways w_t_nexts w_t_hourNow w_t_staying w_t_leftCard w_t_leftLine w_t_isMute w_t_higher w_t_over w_t_dry w_t_truths w_t_failHours w_t_failRow w_t_keptBoards w_t_keptHung w_t_bodies w_t_ran w_t_kind w_t_number w_t_tellsV  i_t_hasImage u f_t_image) t) A) ([.ref a_t] : List Value).toArray s 0 0 A) (F0 m 12 ls []) := by
    intro n12
    induction n12 with
    | zero => intro x1 f_t_s hw; exact (show False from hw).elim
    | succ n12 ih12 =>
      intro x1 f_t_s hw H locs hP hD hS ls hl
      unfold WX11_undo_12 at hw
      refine lv_iload_n hx hb dX11_undo_12 rfl (lv_at hl 1 rfl) ?_
      refine lv_sipush (v := 1454) hx hb dX11_undo_13 (by decide) ?_
      refine lv_icmp_ge (tgt := 37) hx hb dX11_undo_16 (by decide) (fun c2 => ?_) (fun c2 => ?_)
      · replace hw := hw.1 c2
        refine lv_aload_n hx hb dX11_undo_37 rfl (lv_at hl 0 rfl) ?_
        refine va_get (D := D) (ci := 10) (v := .ref a_t_s) (C := RX11) (T := TX11) (N := 38) hx hb hts inX11_undo_X11 hown hK hP 0 rfl rfl 1 (by decide) (hts _ (List.mem_of_getElem? (i := 2) rfl)) (fun _ h9 => h9) rfl dX11_undo_38 ?_
        refine lv_iconst (v := 5) hx hb dX11_undo_41 (by decide) ?_
        refine va_iald hx hb hK hP 1 0 rfl rfl (vpc rfl) dX11_undo_42 ?_
        exact W.iret (v := f_t_s (5 : Int32).toNatClampNeg) hx hb hr (fun t ht hW => ⟨⟨f_t_s (5 : Int32).toNatClampNeg, f_t_s, rfl, hw, post_mk ht hP hD⟩, hS.F ht⟩) hS.2.2 dX11_undo_43 hlocks
      · replace hw := hw.2 c2
        refine lv_aload_n hx hb dX11_undo_19 rfl (lv_at hl 0 rfl) ?_
        refine va_get (D := D) (ci := 10) (v := .ref a_t_s) (C := RX11) (T := TX11) (N := 38) hx hb hts inX11_undo_X11 hown hK hP 0 rfl rfl 1 (by decide) (hts _ (List.mem_of_getElem? (i := 2) rfl)) (fun _ h9 => h9) rfl dX11_undo_20 ?_
        refine lv_iload_n hx hb dX11_undo_23 rfl (lv_at hl 1 rfl) ?_
        refine lv_aload_n hx hb dX11_undo_24 rfl (lv_at hl 0 rfl) ?_
        refine va_get (D := D) (ci := 10) (v := .ref a_t_image) (C := RX11) (T := TX11) (N := 38) hx hb hts inX11_undo_X11 hown hK hP 0 rfl rfl 2 (by decide) (hts _ (List.mem_of_getElem? (i := 3) rfl)) (fun _ h9 => h9) rfl dX11_undo_25 ?_
        refine lv_iload_n hx hb dX11_undo_28 rfl (lv_at hl 1 rfl) ?_
        have h3 := hw.1
        replace hw := hw.2
        refine va_iald hx hb hK hP 2 0 rfl rfl h3 dX11_undo_29 ?_
        refine lv_topi (fun y4 ey4 => ?_)
        replace hw := hw y4 ey4
        have h5 := hw.1
        replace hw := hw.2
        refine va_iast hx hb hK hP hD hS 1 0 rfl rfl h5 dX11_undo_30 (fun H locs hP hD hS => ?_)
        replace hP : va_P D vwCl [(a_t, .inr (10, [w_t_thrown, .ref a_t_s, .ref a_t_image, .int i_t_hasImage, w_t_act, w_t_spot, w_t_end, w_t_isWrong, w_t_open, w_t_readMany, w_t_readSpan, w_t_readSum, w_t_readOdds, w_t_readBank, w_t_readMill, w_t_readLevel, w_t_levels, w_t_boardsNow, w_t_ways, w_t_nexts, w_t_hourNow, w_t_staying, w_t_leftCard, w_t_leftLine, w_t_isMute, w_t_higher, w_t_over, w_t_dry, w_t_truths, w_t_failHours, w_t_failRow, w_t_keptBoards, w_t_keptHung, w_t_bodies, w_t_ran, w_t_kind, w_t_number, w_t_tellsV])), (a_t_s, .inl (cyI, 1454, .inl (upd f_t_s x1.toNatClampNeg y4))), (a_t_image, .inl (cyI, 1454, .inl f_t_image))] H := hP
        replace hD : va_D A [(a_t, .inr (10, [w_t_thrown, .ref a_t_s, .ref a_t_image, .int i_t_hasImage, w_t_act, w_t_spot, w_t_end, w_t_isWrong, w_t_open, w_t_readMany, w_t_readSpan, w_t_readSum, w_t_readOdds, w_t_readBank, w_t_readMill, w_t_readLevel, w_t_levels, w_t_boardsNow, w_t_ways, w_t_nexts, w_t_hourNow, w_t_staying, w_t_leftCard, w_t_leftLine, w_t_isMute, w_t_higher, w_t_over, w_t_dry, w_t_truths, w_t_failHours, w_t_failRow, w_t_keptBoards, w_t_keptHung, w_t_bodies, w_t_ran, w_t_kind, w_t_number, w_t_tellsV])), (a_t_s, .inl (cyI, 1454, .inl (upd f_t_s x1.toNatClampNeg y4))), (a_t_image, .inl (cyI, 1454, .inl f_t_image))] := hD
        obtain ⟨y6, ey6⟩ : ∃ y : Int32, y = x1 + 1 := ⟨_, rfl⟩
        replace hw := hw y6 ey6
        refine lv_iinc (v := y6) (lv' := [(1, .int y6), (0, .ref a_t)]) hx hb dX11_undo_31 hl (k := 1) rfl (by rw [ey6]; rfl) (by decide) rfl (fun ls hl => ?_)
        refine lv_goto (tgt := 12) hx hb dX11_undo_34 (by decide) ?_
        exact ih12 y6 (upd f_t_s x1.toNatClampNeg y4) hw _ _ hP hD hS _ (lv_sub hl [1, 0] rfl)
  unfold WX11_undo at hw
  refine lv_aload_n hx hb dX11_undo_0 rfl (lv_at hl 0 rfl) ?_
  refine va_get (D := D) (ci := 10) (v := .int i_t_hasImage) (C := RX11) (T := TX11) (N := 38) hx hb hts inX11_undo_X11 hown hK hP 0 rfl rfl 3 (by decide) (hts _ (List.mem_of_getElem? (i := 1) rfl)) (fun _ h9 => h9) rfl dX11_undo_1 ?_
  refine lv_if_ne (tgt := 10) hx hb dX11_undo_4 (by decide) (fun c1 => ?_) (fun c1 => ?_)
  · replace hw := hw.2 c1
    refine lv_iconst (v := 0) hx hb dX11_undo_10 (by decide) ?_
    refine lv_istore_n (lv' := [(1, .int 0), (0, .ref a_t)]) hx hb dX11_undo_11 rfl hl (by decide) rfl (fun ls hl => ?_)
    obtain ⟨nn, hw⟩ := hw
    exact B12 nn 0 f_t_s hw _ _ hP hD hS _ (lv_sub hl [1, 0] rfl)
  · replace hw := hw.1 c1
    refine lv_bipush (v := (-3)) hx hb dX11_undo_7 (by decide) ?_
    exact W.iret (v := (-3)) hx hb hr (fun t ht hW => ⟨⟨(-3), f_t_s, rfl, hw, post_mk ht hP hD⟩, hS.F ht⟩) hS.2.2 dX11_undo_9 hlocks
set_option maxHeartbeats 8000000 in
set_option maxRecDepth 100000 in
theorem MX11_count (l : Launch) (D : va_G) (cyI cyZ cyC : ClassId) (ro : va_W) (ce : Nat → CT) (cin : Nat → Prop) (ad : AD) (a_t a_t_s : Nat) (w_t_thrown w_t_image w_t_hasImage w_t_act w_t_spot w_t_end w_t_isWrong w_t_open w_t_readMany w_t_readSpan w_t_readSum w_t_readOdds w_t_readBank w_t_readMill w_t_readLevel w_t_levels w_t_boardsNow w_t_ways w_t_nexts w_t_hourNow w_t_staying w_t_leftCard w_t_leftLine w_t_isMute w_t_higher w_t_over w_t_dry w_t_truths w_t_failHours w_t_failRow w_t_keptBoards w_t_keptHung w_t_bodies w_t_kind w_t_number w_t_tellsV : Value) (sz : Nat) (x1 : Int32) (i_t_ran : Int32) (f_t_s : Nat → Int32) (Q : Int32 → Prop)  (hw : WX11_count x1 i_t_ran f_t_s Q) : Met l yX11_count wsX11_count ({ frames := 0, cells := 0, slots := 0, locals := 0 }) (va_Pc [.ref a_t, .int x1] (PRE D cyI cyZ cyC ro ce cin ad (SX11_count cyI cyZ cyC a_t a_t_s w_t_thrown w_t_image w_t_hasImage w_t_act w_t_spot w_t_end w_t_isWrong w_t_open w_t_readMany w_t_readSpan w_t_readSum w_t_readOdds w_t_readBank w_t_readMill w_t_readLevel w_t_levels w_t_boardsNow w_t_ways w_t_nexts w_t_hourNow w_t_staying w_t_leftCard w_t_leftLine w_t_isMute w_t_higher w_t_over w_t_dry w_t_truths w_t_failHours w_t_failRow w_t_keptBoards w_t_keptHung w_t_bodies w_t_kind w_t_number w_t_tellsV  i_t_ran f_t_s) sz)) (va_Qi (fun (r : Int32) (_ : Unit) => Q r) (fun (_ : Unit) (t : State) => POST D (va_A (SX11_count cyI cyZ cyC a_t a_t_s w_t_thrown w_t_image w_t_hasImage w_t_act w_t_spot w_t_end w_t_isWrong w_t_open w_t_readMany w_t_readSpan w_t_readSum w_t_readOdds w_t_readBank w_t_readMill w_t_readLevel w_t_levels w_t_boardsNow w_t_ways w_t_nexts w_t_hourNow w_t_staying w_t_leftCard w_t_leftLine w_t_isMute w_t_higher w_t_over w_t_dry w_t_truths w_t_failHours w_t_failRow w_t_keptBoards w_t_keptHung w_t_bodies w_t_kind w_t_number w_t_tellsV  i_t_ran f_t_s) sz) (SX11_count cyI cyZ cyC a_t a_t_s w_t_thrown w_t_image w_t_hasImage w_t_act w_t_spot w_t_end w_t_isWrong w_t_open w_t_readMany w_t_readSpan w_t_readSum w_t_readOdds w_t_readBank w_t_readMill w_t_readLevel w_t_levels w_t_boardsNow w_t_ways w_t_nexts w_t_hourNow w_t_staying w_t_leftCard w_t_leftLine w_t_isMute w_t_higher w_t_over w_t_dry w_t_truths w_t_failHours w_t_failRow w_t_keptBoards w_t_keptHung w_t_bodies w_t_kind w_t_number w_t_tellsV  i_t_ran f_t_s) t) (va_A (SX11_count cyI cyZ cyC a_t a_t_s w_t_thrown w_t_image w_t_hasImage w_t_act w_t_spot w_t_end w_t_isWrong w_t_open w_t_readMany w_t_readSpan w_t_readSum w_t_readOdds w_t_readBank w_t_readMill w_t_readLevel w_t_levels w_t_boardsNow w_t_ways w_t_nexts w_t_hourNow w_t_staying w_t_leftCard w_t_leftLine w_t_isMute w_t_higher w_t_over w_t_dry w_t_truths w_t_failHours w_t_failRow w_t_keptBoards w_t_keptHung w_t_bodies w_t_kind w_t_number w_t_tellsV  i_t_ran f_t_s) sz)) 0 0 (va_A (SX11_count cyI cyZ cyC a_t a_t_s w_t_thrown w_t_image w_t_hasImage w_t_act w_t_spot w_t_end w_t_isWrong w_t_open w_t_readMany w_t_readSpan w_t_readSum w_t_readOdds w_t_readBank w_t_readMill w_t_readLevel w_t_levels w_t_boardsNow w_t_ways w_t_nexts w_t_hourNow w_t_staying w_t_leftCard w_t_leftLine w_t_isMute w_t_higher w_t_over w_t_dry w_t_truths w_t_failHours w_t_failRow w_t_keptBoards w_t_keptHung w_t_bodies w_t_kind w_t_number w_t_tellsV  i_t_ran f_t_s) sz) := by
  refine Met.ofW (cc := cX11_count) (maxL := 2) (ret := (some .int)) (by decide +kernel) rfl ?_
  intro p e s m args below meth c s₁ B hml hv
  obtain ⟨rfl, hsz, hP, hK, hD0, hX⟩ := hv
  have hx := B.exec
  have hb := B.bytes
  have hr := B.returns
  have hts := atoms_spec (ws := wsX11_count) B.pre
  have hown : s.vm.findClass RX11 = some m.cls := findClass_of_methodNamed B.named
  have hlocks := B.notSynchronized
  clear B
  subst hsz
  have hD := hD0.self (sz := s.heap.size)
  clear hD0
  generalize hAe : va_A (SX11_count cyI cyZ cyC a_t a_t_s w_t_thrown w_t_image w_t_hasImage w_t_act w_t_spot w_t_end w_t_isWrong w_t_open w_t_readMany w_t_readSpan w_t_readSum w_t_readOdds w_t_readBank w_t_readMill w_t_readLevel w_t_levels w_t_boardsNow w_t_ways w_t_nexts w_t_hourNow w_t_staying w_t_leftCard w_t_leftLine w_t_isMute w_t_higher w_t_over w_t_dry w_t_truths w_t_failHours w_t_failRow w_t_keptBoards w_t_keptHung w_t_bodies w_t_kind w_t_number w_t_tellsV  i_t_ran f_t_s) s.heap.size = A at hD hX ⊢
  have hA : ∀ q : Nat, s.heap.size ≤ q → A q := fun q h => by rw [← hAe]; exact Or.inr h
  clear hAe
  obtain ⟨H, hH⟩ : ∃ H, H = s.heap := ⟨_, rfl⟩
  rw [← hH] at hP ⊢
  have hS : va_S A s.heap H [] := by rw [hH]; exact va_S.rf
  clear hH
  replace hP : va_P D vwCl [(a_t, .inr (10, [w_t_thrown, .ref a_t_s, w_t_image, w_t_hasImage, w_t_act, w_t_spot, w_t_end, w_t_isWrong, w_t_open, w_t_readMany, w_t_readSpan, w_t_readSum, w_t_readOdds, w_t_readBank, w_t_readMill, w_t_readLevel, w_t_levels, w_t_boardsNow, w_t_ways, w_t_nexts, w_t_hourNow, w_t_staying, w_t_leftCard, w_t_leftLine, w_t_isMute, w_t_higher, w_t_over, w_t_dry, w_t_truths, w_t_failHours, w_t_failRow, w_t_keptBoards, w_t_keptHung, w_t_bodies, .int i_t_ran, w_t_kind, w_t_number, w_t_tellsV])), (a_t_s, .inl (cyI, 1454, .inl f_t_s))] H := hP
  replace hD : va_D A [(a_t, .inr (10, [w_t_thrown, .ref a_t_s, w_t_image, w_t_hasImage, w_t_act, w_t_spot, w_t_end, w_t_isWrong, w_t_open, w_t_readMany, w_t_readSpan, w_t_readSum, w_t_readOdds, w_t_readBank, w_t_readMill, w_t_readLevel, w_t_levels, w_t_boardsNow, w_t_ways, w_t_nexts, w_t_hourNow, w_t_staying, w_t_leftCard, w_t_leftLine, w_t_isMute, w_t_higher, w_t_over, w_t_dry, w_t_truths, w_t_failHours, w_t_failRow, w_t_keptBoards, w_t_keptHung, w_t_bodies, .int i_t_ran, w_t_kind, w_t_number, w_t_tellsV])), (a_t_s, .inl (cyI, 1454, .inl f_t_s))] := hD
  have hl := lv_entry ([.ref a_t, .int x1]) (n := 2) (Nat.le_of_ble_eq_true rfl)
  rw [lg_entry_eq]
  generalize (lg_sl ([.ref a_t, .int x1]) ++ List.replicate (2 - (lg_sl ([.ref a_t, .int x1])).length) Slot.unset).toArray = ls at hl ⊢
  replace hl : lv_has ls 2 [(0, .ref a_t), (1, .int x1)] := hl
  unfold WX11_count at hw
  refine lv_iload_n hx hb dX11_count_0 rfl (lv_at hl 1 rfl) ?_
  by_cases c1 : x1 = 0
  · replace hw := hw.1 c1
    refine lv_tableIn (off := 35) (tgt := 36) hx hb dX11_count_1 (by rw [c1]; decide) (by rw [c1]; decide) (by rw [c1]; rfl) (by decide) ?_
    refine lv_aload_n hx hb dX11_count_36 rfl (lv_at hl 0 rfl) ?_
    refine va_get (D := D) (ci := 10) (v := .ref a_t_s) (C := RX11) (T := TX11) (N := 38) hx hb hts inX11_count_X11 hown hK hP 0 rfl rfl 1 (by decide) (hts _ (List.mem_of_getElem? (i := 1) rfl)) (fun _ h9 => h9) rfl dX11_count_37 ?_
    refine lv_iconst (v := 0) hx hb dX11_count_40 (by decide) ?_
    refine va_iald hx hb hK hP 1 0 rfl rfl (vpc rfl) dX11_count_41 ?_
    exact W.iret (v := f_t_s (0 : Int32).toNatClampNeg) hx hb hr (fun t ht hW => ⟨⟨f_t_s (0 : Int32).toNatClampNeg, (), rfl, hw, post_mk ht hP hD⟩, hS.F ht⟩) hS.2.2 dX11_count_42 hlocks
  replace hw := hw.2 c1
  by_cases c2 : x1 = 1
  · replace hw := hw.1 c2
    refine lv_tableIn (off := 42) (tgt := 43) hx hb dX11_count_1 (by rw [c2]; decide) (by rw [c2]; decide) (by rw [c2]; rfl) (by decide) ?_
    refine lv_aload_n hx hb dX11_count_43 rfl (lv_at hl 0 rfl) ?_
    refine va_get (D := D) (ci := 10) (v := .ref a_t_s) (C := RX11) (T := TX11) (N := 38) hx hb hts inX11_count_X11 hown hK hP 0 rfl rfl 1 (by decide) (hts _ (List.mem_of_getElem? (i := 1) rfl)) (fun _ h9 => h9) rfl dX11_count_44 ?_
    refine lv_iconst (v := 5) hx hb dX11_count_47 (by decide) ?_
    refine va_iald hx hb hK hP 1 0 rfl rfl (vpc rfl) dX11_count_48 ?_
    exact W.iret (v := f_t_s (5 : Int32).toNatClampNeg) hx hb hr (fun t ht hW => ⟨⟨f_t_s (5 : Int32).toNatClampNeg, (), rfl, hw, post_mk ht hP hD⟩, hS.F ht⟩) hS.2.2 dX11_count_49 hlocks
  replace hw := hw.2 c2
  by_cases c3 : x1 = 2
  · replace hw := hw.1 c3
    refine lv_tableIn (off := 49) (tgt := 50) hx hb dX11_count_1 (by rw [c3]; decide) (by rw [c3]; decide) (by rw [c3]; rfl) (by decide) ?_
    refine lv_aload_n hx hb dX11_count_50 rfl (lv_at hl 0 rfl) ?_
    refine va_get (D := D) (ci := 10) (v := .ref a_t_s) (C := RX11) (T := TX11) (N := 38) hx hb hts inX11_count_X11 hown hK hP 0 rfl rfl 1 (by decide) (hts _ (List.mem_of_getElem? (i := 1) rfl)) (fun _ h9 => h9) rfl dX11_count_51 ?_
    refine lv_bipush (v := 6) hx hb dX11_count_54 (by decide) ?_
    refine va_iald hx hb hK hP 1 0 rfl rfl (vpc rfl) dX11_count_56 ?_
    exact W.iret (v := f_t_s (6 : Int32).toNatClampNeg) hx hb hr (fun t ht hW => ⟨⟨f_t_s (6 : Int32).toNatClampNeg, (), rfl, hw, post_mk ht hP hD⟩, hS.F ht⟩) hS.2.2 dX11_count_57 hlocks
  replace hw := hw.2 c3
  by_cases c4 : x1 = 3
  · replace hw := hw.1 c4
    refine lv_tableIn (off := 57) (tgt := 58) hx hb dX11_count_1 (by rw [c4]; decide) (by rw [c4]; decide) (by rw [c4]; rfl) (by decide) ?_
    refine lv_aload_n hx hb dX11_count_58 rfl (lv_at hl 0 rfl) ?_
    refine va_get (D := D) (ci := 10) (v := .ref a_t_s) (C := RX11) (T := TX11) (N := 38) hx hb hts inX11_count_X11 hown hK hP 0 rfl rfl 1 (by decide) (hts _ (List.mem_of_getElem? (i := 1) rfl)) (fun _ h9 => h9) rfl dX11_count_59 ?_
    refine lv_bipush (v := 7) hx hb dX11_count_62 (by decide) ?_
    refine va_iald hx hb hK hP 1 0 rfl rfl (vpc rfl) dX11_count_64 ?_
    exact W.iret (v := f_t_s (7 : Int32).toNatClampNeg) hx hb hr (fun t ht hW => ⟨⟨f_t_s (7 : Int32).toNatClampNeg, (), rfl, hw, post_mk ht hP hD⟩, hS.F ht⟩) hS.2.2 dX11_count_65 hlocks
  replace hw := hw.2 c4
  by_cases c5 : x1 = 4
  · replace hw := hw.1 c5
    refine lv_tableIn (off := 65) (tgt := 66) hx hb dX11_count_1 (by rw [c5]; decide) (by rw [c5]; decide) (by rw [c5]; rfl) (by decide) ?_
    refine lv_aload_n hx hb dX11_count_66 rfl (lv_at hl 0 rfl) ?_
    refine va_get (D := D) (ci := 10) (v := .int i_t_ran) (C := RX11) (T := TX11) (N := 38) hx hb hts inX11_count_X11 hown hK hP 0 rfl rfl 34 (by decide) (hts _ (List.mem_of_getElem? (i := 2) rfl)) (fun _ h9 => h9) rfl dX11_count_67 ?_
    exact W.iret (v := i_t_ran) hx hb hr (fun t ht hW => ⟨⟨i_t_ran, (), rfl, hw, post_mk ht hP hD⟩, hS.F ht⟩) hS.2.2 dX11_count_70 hlocks
  replace hw := hw.2 c5
  have hne0 := lv_neT (a := 0) c1 (by decide)
  have hne1 := lv_neT (a := 1) c2 (by decide)
  have hne2 := lv_neT (a := 2) c3 (by decide)
  have hne3 := lv_neT (a := 3) c4 (by decide)
  have hne4 := lv_neT (a := 4) c5 (by decide)
  refine lv_tableOut (tgt := 71) hx hb dX11_count_1 (by omega) (by decide) ?_
  refine lv_iconst (v := (-1)) hx hb dX11_count_71 (by decide) ?_
  exact W.iret (v := (-1)) hx hb hr (fun t ht hW => ⟨⟨(-1), (), rfl, hw, post_mk ht hP hD⟩, hS.F ht⟩) hS.2.2 dX11_count_72 hlocks
set_option maxHeartbeats 8000000 in
set_option maxRecDepth 100000 in
theorem MX9_putByte (l : Launch) (D : va_G) (cyI cyZ cyC : ClassId) (ro : va_W) (ce : Nat → CT) (cin : Nat → Prop) (ad : AD) (a_t a_t_tape : Nat) (w_t_river w_t_cards w_t_cardCount w_t_toldRain w_t_toldHours : Value) (sz : Nat) (x1 : Int32) (i_t_bytes : Int32) (f_t_tape : Nat → Int32) (Q : Int32 → (Nat → Int32) → Prop)  (hw : WX9_putByte x1 i_t_bytes f_t_tape Q) : Met l yX9_putByte wsX9_putByte ({ frames := 0, cells := 0, slots := 0, locals := 0 }) (va_Pc [.ref a_t, .int x1] (PRE D cyI cyZ cyC ro ce cin ad (SX9_putByte cyI cyZ cyC a_t a_t_tape w_t_river w_t_cards w_t_cardCount w_t_toldRain w_t_toldHours  i_t_bytes f_t_tape) sz)) (va_Qv (fun (u : Int32 × (Nat → Int32)) => Q u.1 u.2) (fun (u : Int32 × (Nat → Int32)) (t : State) => POST D (va_A (SX9_putByte cyI cyZ cyC a_t a_t_tape w_t_river w_t_cards w_t_cardCount w_t_toldRain w_t_toldHours  i_t_bytes f_t_tape) sz) (SX9_putByte cyI cyZ cyC a_t a_t_tape w_t_river w_t_cards w_t_cardCount w_t_toldRain w_t_toldHours  u.1 u.2) t) (va_A (SX9_putByte cyI cyZ cyC a_t a_t_tape w_t_river w_t_cards w_t_cardCount w_t_toldRain w_t_toldHours  i_t_bytes f_t_tape) sz)) 0 0 (va_A (SX9_putByte cyI cyZ cyC a_t a_t_tape w_t_river w_t_cards w_t_cardCount w_t_toldRain w_t_toldHours  i_t_bytes f_t_tape) sz) := by
  refine Met.ofW (cc := cX9_putByte) (maxL := 2) (ret := none) (by decide +kernel) rfl ?_
  intro p e s m args below meth c s₁ B hml hv
  obtain ⟨rfl, hsz, hP, hK, hD0, hX⟩ := hv
  have hx := B.exec
  have hb := B.bytes
  have hr := B.returns
  have hts := atoms_spec (ws := wsX9_putByte) B.pre
  have hown : s.vm.findClass RX9 = some m.cls := findClass_of_methodNamed B.named
  have hlocks := B.notSynchronized
  clear B
  subst hsz
  have hD := hD0.self (sz := s.heap.size)
  clear hD0
  generalize hAe : va_A (SX9_putByte cyI cyZ cyC a_t a_t_tape w_t_river w_t_cards w_t_cardCount w_t_toldRain w_t_toldHours  i_t_bytes f_t_tape) s.heap.size = A at hD hX ⊢
  have hA : ∀ q : Nat, s.heap.size ≤ q → A q := fun q h => by rw [← hAe]; exact Or.inr h
  clear hAe
  obtain ⟨H, hH⟩ : ∃ H, H = s.heap := ⟨_, rfl⟩
  rw [← hH] at hP ⊢
  have hS : va_S A s.heap H [] := by rw [hH]; exact va_S.rf
  clear hH
  replace hP : va_P D vwCl [(a_t, .inr (8, [.ref a_t_tape, .int i_t_bytes, w_t_river, w_t_cards, w_t_cardCount, w_t_toldRain, w_t_toldHours])), (a_t_tape, .inl (cyI, 120, .inl f_t_tape))] H := hP
  replace hD : va_D A [(a_t, .inr (8, [.ref a_t_tape, .int i_t_bytes, w_t_river, w_t_cards, w_t_cardCount, w_t_toldRain, w_t_toldHours])), (a_t_tape, .inl (cyI, 120, .inl f_t_tape))] := hD
  have hl := lv_entry ([.ref a_t, .int x1]) (n := 2) (Nat.le_of_ble_eq_true rfl)
  rw [lg_entry_eq]
  generalize (lg_sl ([.ref a_t, .int x1]) ++ List.replicate (2 - (lg_sl ([.ref a_t, .int x1])).length) Slot.unset).toArray = ls at hl ⊢
  replace hl : lv_has ls 2 [(0, .ref a_t), (1, .int x1)] := hl
  unfold WX9_putByte at hw
  refine lv_aload_n hx hb dX9_putByte_0 rfl (lv_at hl 0 rfl) ?_
  refine va_get (D := D) (ci := 8) (v := .int i_t_bytes) (C := RX9) (T := TX9) (N := 7) hx hb hts inX9_putByte_X9 hown hK hP 0 rfl rfl 1 (by decide) (hts _ (List.mem_of_getElem? (i := 1) rfl)) (fun _ h9 => h9) rfl dX9_putByte_1 ?_
  refine lv_if_lt (tgt := 19) hx hb dX9_putByte_4 (by decide) (fun c1 => ?_) (fun c1 => ?_)
  · replace hw := hw.1 c1
    exact W.vret hx hb hr (fun t ht hW => ⟨⟨(i_t_bytes, f_t_tape), rfl, hw, post_mk ht hP hD⟩, hS.F ht⟩) hS.2.2 dX9_putByte_19 hlocks
  · replace hw := hw.2 c1
    refine lv_aload_n hx hb dX9_putByte_7 rfl (lv_at hl 0 rfl) ?_
    refine va_get (D := D) (ci := 8) (v := .int i_t_bytes) (C := RX9) (T := TX9) (N := 7) hx hb hts inX9_putByte_X9 hown hK hP 0 rfl rfl 1 (by decide) (hts _ (List.mem_of_getElem? (i := 1) rfl)) (fun _ h9 => h9) rfl dX9_putByte_8 ?_
    refine lv_aload_n hx hb dX9_putByte_11 rfl (lv_at hl 0 rfl) ?_
    refine va_get (D := D) (ci := 8) (v := .ref a_t_tape) (C := RX9) (T := TX9) (N := 7) hx hb hts inX9_putByte_X9 hown hK hP 0 rfl rfl 0 (by decide) (hts _ (List.mem_of_getElem? (i := 2) rfl)) (fun _ h9 => h9) rfl dX9_putByte_12 ?_
    refine va_alen (v := 120) hx hb hK hP 1 0 rfl rfl rfl dX9_putByte_15 ?_
    refine lv_icmp_lt (tgt := 20) hx hb dX9_putByte_16 (by decide) (fun c2 => ?_) (fun c2 => ?_)
    · replace hw := hw.1 c2
      refine lv_aload_n hx hb dX9_putByte_20 rfl (lv_at hl 0 rfl) ?_
      refine va_get (D := D) (ci := 8) (v := .ref a_t_tape) (C := RX9) (T := TX9) (N := 7) hx hb hts inX9_putByte_X9 hown hK hP 0 rfl rfl 0 (by decide) (hts _ (List.mem_of_getElem? (i := 2) rfl)) (fun _ h9 => h9) rfl dX9_putByte_21 ?_
      refine lv_aload_n hx hb dX9_putByte_24 rfl (lv_at hl 0 rfl) ?_
      refine va_get (D := D) (ci := 8) (v := .int i_t_bytes) (C := RX9) (T := TX9) (N := 7) hx hb hts inX9_putByte_X9 hown hK hP 0 rfl rfl 1 (by decide) (hts _ (List.mem_of_getElem? (i := 1) rfl)) (fun _ h9 => h9) rfl dX9_putByte_25 ?_
      refine lv_iload_n hx hb dX9_putByte_28 rfl (lv_at hl 1 rfl) ?_
      have h3 := hw.1
      replace hw := hw.2
      refine va_iast hx hb hK hP hD hS 1 0 rfl rfl h3 dX9_putByte_29 (fun H locs hP hD hS => ?_)
      replace hP : va_P D vwCl [(a_t, .inr (8, [.ref a_t_tape, .int i_t_bytes, w_t_river, w_t_cards, w_t_cardCount, w_t_toldRain, w_t_toldHours])), (a_t_tape, .inl (cyI, 120, .inl (upd f_t_tape i_t_bytes.toNatClampNeg x1)))] H := hP
      replace hD : va_D A [(a_t, .inr (8, [.ref a_t_tape, .int i_t_bytes, w_t_river, w_t_cards, w_t_cardCount, w_t_toldRain, w_t_toldHours])), (a_t_tape, .inl (cyI, 120, .inl (upd f_t_tape i_t_bytes.toNatClampNeg x1)))] := hD
      refine lv_aload_n hx hb dX9_putByte_30 rfl (lv_at hl 0 rfl) ?_
      refine lv_dup hx hb dX9_putByte_31 rfl ?_
      refine va_get (D := D) (ci := 8) (v := .int i_t_bytes) (C := RX9) (T := TX9) (N := 7) hx hb hts inX9_putByte_X9 hown hK hP 0 rfl rfl 1 (by decide) (hts _ (List.mem_of_getElem? (i := 1) rfl)) (fun _ h9 => h9) rfl dX9_putByte_32 ?_
      refine lv_iconst (v := 1) hx hb dX9_putByte_35 (by decide) ?_
      refine lv_iadd hx hb dX9_putByte_36 ?_
      refine lv_topi (fun y4 ey4 => ?_)
      replace hw := hw y4 ey4
      refine va_put (D := D) (ci := 8) (v := .int y4) (ty := .int) (C := RX9) (T := TX9) (N := 7) hx hb hts inX9_putByte_X9 tyX9 tyX9_ok nmX9 hown hK hP hD hS 0 rfl rfl 1 (by decide) (hts _ (List.mem_of_getElem? (i := 1) rfl)) (fun _ h9 => h9) rfl (tyX9_ok 1 (by decide)) rfl rfl (Nat.le_of_ble_eq_true rfl) dX9_putByte_37 (fun H locs hP hD hS => ?_)
      replace hP : va_P D vwCl [(a_t, .inr (8, [.ref a_t_tape, .int y4, w_t_river, w_t_cards, w_t_cardCount, w_t_toldRain, w_t_toldHours])), (a_t_tape, .inl (cyI, 120, .inl (upd f_t_tape i_t_bytes.toNatClampNeg x1)))] H := hP
      replace hD : va_D A [(a_t, .inr (8, [.ref a_t_tape, .int y4, w_t_river, w_t_cards, w_t_cardCount, w_t_toldRain, w_t_toldHours])), (a_t_tape, .inl (cyI, 120, .inl (upd f_t_tape i_t_bytes.toNatClampNeg x1)))] := hD
      exact W.vret hx hb hr (fun t ht hW => ⟨⟨(y4, upd f_t_tape i_t_bytes.toNatClampNeg x1), rfl, hw, post_mk ht hP hD⟩, hS.F ht⟩) hS.2.2 dX9_putByte_40 hlocks
    · replace hw := hw.2 c2
      exact W.vret hx hb hr (fun t ht hW => ⟨⟨(i_t_bytes, f_t_tape), rfl, hw, post_mk ht hP hD⟩, hS.F ht⟩) hS.2.2 dX9_putByte_19 hlocks
set_option maxHeartbeats 8000000 in
set_option maxRecDepth 100000 in
theorem MX10_feed (l : Launch) (D : va_G) (cyI cyZ cyC : ClassId) (ro : va_W) (ce : Nat → CT) (cin : Nat → Prop) (ad : AD) (a_t a_t_now a_t_now_tape : Nat) (w_t_kept w_t_riverReader w_t_cardReader w_t_trial w_t_latest w_t_imageTaken w_t_now_river w_t_now_cards w_t_now_cardCount w_t_now_toldRain w_t_now_toldHours : Value) (sz : Nat) (x1 : Int64) (x3 : Int32) (i_t_now_bytes : Int32) (f_t_now_tape : Nat → Int32) (Q : Int32 → Int32 → (Nat → Int32) → Prop)  (hw : WX10_feed x1 x3 i_t_now_bytes f_t_now_tape Q) : Met l yX10_feed wsX10_feed ({ frames := 1, cells := 0, slots := 0, locals := 21 }) (va_Pc [.ref a_t, .long x1, .int x3] (PRE D cyI cyZ cyC ro ce cin ad (SX10_feed cyI cyZ cyC a_t a_t_now a_t_now_tape w_t_kept w_t_riverReader w_t_cardReader w_t_trial w_t_latest w_t_imageTaken w_t_now_river w_t_now_cards w_t_now_cardCount w_t_now_toldRain w_t_now_toldHours  i_t_now_bytes f_t_now_tape) sz)) (va_Qi (fun (r : Int32) (u : Int32 × (Nat → Int32)) => Q r u.1 u.2) (fun (u : Int32 × (Nat → Int32)) (t : State) => POST D (va_A (SX10_feed cyI cyZ cyC a_t a_t_now a_t_now_tape w_t_kept w_t_riverReader w_t_cardReader w_t_trial w_t_latest w_t_imageTaken w_t_now_river w_t_now_cards w_t_now_cardCount w_t_now_toldRain w_t_now_toldHours  i_t_now_bytes f_t_now_tape) sz) (SX10_feed cyI cyZ cyC a_t a_t_now a_t_now_tape w_t_kept w_t_riverReader w_t_cardReader w_t_trial w_t_latest w_t_imageTaken w_t_now_river w_t_now_cards w_t_now_cardCount w_t_now_toldRain w_t_now_toldHours  u.1 u.2) t) (va_A (SX10_feed cyI cyZ cyC a_t a_t_now a_t_now_tape w_t_kept w_t_riverReader w_t_cardReader w_t_trial w_t_latest w_t_imageTaken w_t_now_river w_t_now_cards w_t_now_cardCount w_t_now_toldRain w_t_now_toldHours  i_t_now_bytes f_t_now_tape) sz)) 0 0 (va_A (SX10_feed cyI cyZ cyC a_t a_t_now a_t_now_tape w_t_kept w_t_riverReader w_t_cardReader w_t_trial w_t_latest w_t_imageTaken w_t_now_river w_t_now_cards w_t_now_cardCount w_t_now_toldRain w_t_now_toldHours  i_t_now_bytes f_t_now_tape) sz) := by
  refine Met.ofW (cc := cX10_feed) (maxL := 5) (ret := (some .int)) (by decide +kernel) rfl ?_
  intro p e s m args below meth c s₁ B hml hv
  obtain ⟨rfl, hsz, hP, hK, hD0, hX⟩ := hv
  have hx := B.exec
  have hb := B.bytes
  have hr := B.returns
  have hts := atoms_spec (ws := wsX10_feed) B.pre
  have hown : s.vm.findClass RX10 = some m.cls := findClass_of_methodNamed B.named
  have hlocks := B.notSynchronized
  clear B
  subst hsz
  have hD := hD0.self (sz := s.heap.size)
  clear hD0
  generalize hAe : va_A (SX10_feed cyI cyZ cyC a_t a_t_now a_t_now_tape w_t_kept w_t_riverReader w_t_cardReader w_t_trial w_t_latest w_t_imageTaken w_t_now_river w_t_now_cards w_t_now_cardCount w_t_now_toldRain w_t_now_toldHours  i_t_now_bytes f_t_now_tape) s.heap.size = A at hD hX ⊢
  have hA : ∀ q : Nat, s.heap.size ≤ q → A q := fun q h => by rw [← hAe]; exact Or.inr h
  clear hAe
  obtain ⟨H, hH⟩ : ∃ H, H = s.heap := ⟨_, rfl⟩
  rw [← hH] at hP ⊢
  have hS : va_S A s.heap H [] := by rw [hH]; exact va_S.rf
  clear hH
  replace hP : va_P D vwCl [(a_t, .inr (9, [.ref a_t_now, w_t_kept, w_t_riverReader, w_t_cardReader, w_t_trial, w_t_latest, w_t_imageTaken])), (a_t_now, .inr (8, [.ref a_t_now_tape, .int i_t_now_bytes, w_t_now_river, w_t_now_cards, w_t_now_cardCount, w_t_now_toldRain, w_t_now_toldHours])), (a_t_now_tape, .inl (cyI, 120, .inl f_t_now_tape))] H := hP
  replace hD : va_D A [(a_t, .inr (9, [.ref a_t_now, w_t_kept, w_t_riverReader, w_t_cardReader, w_t_trial, w_t_latest, w_t_imageTaken])), (a_t_now, .inr (8, [.ref a_t_now_tape, .int i_t_now_bytes, w_t_now_river, w_t_now_cards, w_t_now_cardCount, w_t_now_toldRain, w_t_now_toldHours])), (a_t_now_tape, .inl (cyI, 120, .inl f_t_now_tape))] := hD
  have hl := lv_entry ([.ref a_t, .long x1, .int x3]) (n := 5) (Nat.le_of_ble_eq_true rfl)
  rw [lg_entry_eq]
  generalize (lg_sl ([.ref a_t, .long x1, .int x3]) ++ List.replicate (5 - (lg_sl ([.ref a_t, .long x1, .int x3])).length) Slot.unset).toArray = ls at hl ⊢
  replace hl : lv_has ls 5 [(0, .ref a_t), (1, .long x1), (3, .int x3)] := hl
  have B36 : ∀ (n36 : Nat), ∀ (x4 : Int32) (i_t_now_bytes : Int32) (f_t_now_tape : Nat → Int32), WX10_feed_36 x1 Q  n36 x4 i_t_now_bytes f_t_now_tape → ∀ (H : Heap) (locs : List Loc), va_P D vwCl [(a_t, .inr (9, [.ref a_t_now, w_t_kept, w_t_riverReader, w_t_cardReader, w_t_trial, w_t_latest, w_t_imageTaken])), (a_t_now, .inr (8, [.ref a_t_now_tape, .int i_t_now_bytes, w_t_now_river, w_t_now_cards, w_t_now_cardCount, w_t_now_toldRain, w_t_now_toldHours])), (a_t_now_tape, .inl (cyI, 120, .inl f_t_now_tape))] H → va_D A [(a_t, .inr (9, [.ref a_t_now, w_t_kept, w_t_riverReader, w_t_cardReader, w_t_trial, w_t_latest, w_t_imageTaken])), (a_t_now, .inr (8, [.ref a_t_now_tape, .int i_t_now_bytes, w_t_now_river, w_t_now_cards, w_t_now_cardCount, w_t_now_toldRain, w_t_now_toldHours])), (a_t_now_tape, .inl (cyI, 120, .inl f_t_now_tape))] → va_S A s.heap H locs → ∀ (ls : Array Slot), lv_has ls 5 [(0, .ref a_t), (1, .long x1), (4, .int x4)] → W p l e { frames := 1, cells := 0, slots := 0, locals := 21 } s m ([.ref a_t, .long x1, .int x3] : List Value).toArray below meth c H locs 0 0 (MQ below (va_Qi (fun (r : Int32) (u : Int32 × (Nat → Int32)) => Q r u.1 u.2) (fun (u : Int32 × (Nat → Int32)) (t : State) => POST D A (SX10_feed cyI cyZ cyC a_t a_t_now a_t_now_tape w_t_kept w_t_riverReader w_t_cardReader w_t_trial w_t_latest w_t_imageTaken w_t_now_river w_t_now_cards w_t_now_cardCount w_t_now_toldRain w_t_now_toldHours  u.1 u.2) t) A) ([.ref a_t, .long x1, .int x3] : List Value).toArray s 0 0 A) (F0 m 36 ls []) := by
    intro n36
    induction n36 with
    | zero => intro x4 i_t_now_bytes f_t_now_tape hw; exact (show False from hw).elim
    | succ n36 ih36 =>
      intro x4 i_t_now_bytes f_t_now_tape hw H locs hP hD hS ls hl
      unfold WX10_feed_36 at hw
      refine lv_iload hx hb dX10_feed_36 (lv_at hl 2 rfl) ?_
      refine lv_if_lt (tgt := 66) hx hb dX10_feed_38 (by decide) (fun c5 => ?_) (fun c5 => ?_)
      · replace hw := hw.1 c5
        refine lv_aload_n hx hb dX10_feed_66 rfl (lv_at hl 0 rfl) ?_
        refine va_get (D := D) (ci := 9) (v := .ref a_t_now) (C := RX10) (T := TX10) (N := 7) hx hb hts inX10_feed_X10 hown hK hP 0 rfl rfl 0 (by decide) (hts _ (List.mem_of_getElem? (i := 1) rfl)) (fun _ h9 => h9) rfl dX10_feed_67 ?_
        refine va_get (D := D) (ci := 8) (v := .int i_t_now_bytes) (C := RX9) (T := TX9) (N := 7) hx hb hts inX10_feed_X9 hown hK hP 1 rfl rfl 1 (by decide) (hts _ (List.mem_of_getElem? (i := 2) rfl)) (fun _ h9 => h9) rfl dX10_feed_70 ?_
        exact W.iret (v := i_t_now_bytes) hx hb hr (fun t ht hW => ⟨⟨i_t_now_bytes, (i_t_now_bytes, f_t_now_tape), rfl, hw, post_mk ht hP hD⟩, hS.F ht⟩) hS.2.2 dX10_feed_73 hlocks
      · replace hw := hw.2 c5
        refine lv_aload_n hx hb dX10_feed_41 rfl (lv_at hl 0 rfl) ?_
        refine va_get (D := D) (ci := 9) (v := .ref a_t_now) (C := RX10) (T := TX10) (N := 7) hx hb hts inX10_feed_X10 hown hK hP 0 rfl rfl 0 (by decide) (hts _ (List.mem_of_getElem? (i := 1) rfl)) (fun _ h9 => h9) rfl dX10_feed_42 ?_
        refine lv_lload_n hx hb dX10_feed_45 rfl (lv_at hl 1 rfl) ?_
        refine lv_bipush (v := 8) hx hb dX10_feed_46 (by decide) ?_
        refine lv_iload hx hb dX10_feed_48 (lv_at hl 2 rfl) ?_
        refine lv_imul hx hb dX10_feed_50 ?_
        refine lv_lushr (v := (x1.toUInt64 >>> ((8 * x4).toInt64.toUInt64 &&& Int64.toUInt64 63)).toInt64) hx hb dX10_feed_51 rfl ?_
        refine lv_l2i (v := ((x1.toUInt64 >>> ((8 * x4).toInt64.toUInt64 &&& Int64.toUInt64 63)).toInt64).toInt32) hx hb dX10_feed_52 rfl ?_
        refine lv_sipush (v := 255) hx hb dX10_feed_53 (by decide) ?_
        refine lv_iand hx hb dX10_feed_56 ?_
        obtain ⟨QK, eQ, hq⟩ := genq (P := WX9_putByte ((((x1.toUInt64 >>> ((8 * x4).toInt64.toUInt64 &&& Int64.toUInt64 63)).toInt64).toInt32) &&& 255) i_t_now_bytes f_t_now_tape) hw
        clear hw
        have hPc := hP.sub (ws' := [(a_t_now, .inr (8, [.ref a_t_now_tape, .int i_t_now_bytes, w_t_now_river, w_t_now_cards, w_t_now_cardCount, w_t_now_toldRain, w_t_now_toldHours])), (a_t_now_tape, .inl (cyI, 120, .inl f_t_now_tape))]) [1, 2] rfl
        have hDc := hD.sub (ws' := [(a_t_now, .inr (8, [.ref a_t_now_tape, .int i_t_now_bytes, w_t_now_river, w_t_now_cards, w_t_now_cardCount, w_t_now_toldRain, w_t_now_toldHours])), (a_t_now_tape, .inl (cyI, 120, .inl f_t_now_tape))]) [1, 2] (by decide) rfl
        have hFc := va_free (wc := [(a_t_now, .inr (8, [.ref a_t_now_tape, .int i_t_now_bytes, w_t_now_river, w_t_now_cards, w_t_now_cardCount, w_t_now_toldRain, w_t_now_toldHours])), (a_t_now_tape, .inl (cyI, 120, .inl f_t_now_tape))]) hD hS hA [1, 2] rfl
        refine va_callv (va_runV (As := [.int ((((x1.toUInt64 >>> ((8 * x4).toInt64.toUInt64 &&& Int64.toUInt64 63)).toInt64).toInt32) &&& 255)]) (rest := []) ⟨hx, hb, hml, hown, hts⟩ (MX9_putByte l D cyI cyZ cyC ro ce cin ad a_t_now a_t_now_tape  (w_t_now_river) (w_t_now_cards) (w_t_now_cardCount) (w_t_now_toldRain) (w_t_now_toldHours) H.size ((((x1.toUInt64 >>> ((8 * x4).toInt64.toUInt64 &&& Int64.toUInt64 63)).toInt64).toInt32) &&& 255) i_t_now_bytes f_t_now_tape QK  hq) (cwV 1 hts gX10_feed_X9_putByte rfl rfl rfl ⟨rfl, dmX9_putByte⟩ ⟨Nat.le_of_ble_eq_true rfl, Nat.le_of_ble_eq_true rfl⟩) ⟨pre_bl, va_recv hK hPc (ci := 8) (q0 := 0) rfl rfl, fun U hU hW => ⟨rfl, pre_of hX hS hK hPc hDc hFc hU hW⟩⟩ rfl rfl hl.1 rfl (lv_room (Nat.le_of_ble_eq_true rfl)) dX10_feed_57 ⟨Nat.zero_le _, Nat.zero_le _⟩) hS (fun q _ h => hFc q h) hFc (fun u t H1 locs ht hvm hw hB hz1 hk1 hS => ?_)
        obtain ⟨i_t_now_bytes_6, f_t_now_tape_7⟩ := u
        replace hw : QK i_t_now_bytes_6 f_t_now_tape_7 := hw
        clear hq
        subst eQ
        obtain ⟨hP1, hD1⟩ := hB
        rw [ht] at hP1
        obtain ⟨hP, hD⟩ := va_join (wr := [(a_t, .inr (9, [.ref a_t_now, w_t_kept, w_t_riverReader, w_t_cardReader, w_t_trial, w_t_latest, w_t_imageTaken]))]) (w1 := [(a_t_now, .inr (8, [.ref a_t_now_tape, .int i_t_now_bytes_6, w_t_now_river, w_t_now_cards, w_t_now_cardCount, w_t_now_toldRain, w_t_now_toldHours])), (a_t_now_tape, .inl (cyI, 120, .inl f_t_now_tape_7))]) hP hD [1, 2] [0] rfl rfl (by decide) (by decide) hk1 hFc hP1 hD1
        clear hPc hDc hFc hk1 hz1 hP1 hD1 ht hvm
        generalize H1 = H at hP hS ⊢
        replace hP : va_P D vwCl [(a_t, .inr (9, [.ref a_t_now, w_t_kept, w_t_riverReader, w_t_cardReader, w_t_trial, w_t_latest, w_t_imageTaken])), (a_t_now, .inr (8, [.ref a_t_now_tape, .int i_t_now_bytes_6, w_t_now_river, w_t_now_cards, w_t_now_cardCount, w_t_now_toldRain, w_t_now_toldHours])), (a_t_now_tape, .inl (cyI, 120, .inl f_t_now_tape_7))] H := hP
        replace hD : va_D A [(a_t, .inr (9, [.ref a_t_now, w_t_kept, w_t_riverReader, w_t_cardReader, w_t_trial, w_t_latest, w_t_imageTaken])), (a_t_now, .inr (8, [.ref a_t_now_tape, .int i_t_now_bytes_6, w_t_now_river, w_t_now_cards, w_t_now_cardCount, w_t_now_toldRain, w_t_now_toldHours])), (a_t_now_tape, .inl (cyI, 120, .inl f_t_now_tape_7))] := hD
        obtain ⟨y8, ey8⟩ : ∃ y : Int32, y = x4 + (-1) := ⟨_, rfl⟩
        replace hw := hw y8 ey8
        refine lv_iinc (v := y8) (lv' := [(4, .int y8), (0, .ref a_t), (1, .long x1)]) hx hb dX10_feed_60 hl (k := 2) rfl (by rw [ey8]; rfl) (by decide) rfl (fun ls hl => ?_)
        refine lv_goto (tgt := 36) hx hb dX10_feed_63 (by decide) ?_
        exact ih36 y8 i_t_now_bytes_6 f_t_now_tape_7 hw _ _ hP hD hS _ (lv_sub hl [1, 2, 0] rfl)
  unfold WX10_feed at hw
  refine lv_iload_n hx hb dX10_feed_0 rfl (lv_at hl 2 rfl) ?_
  refine lv_iconst (v := 1) hx hb dX10_feed_1 (by decide) ?_
  refine lv_icmp_lt (tgt := 11) hx hb dX10_feed_2 (by decide) (fun c1 => ?_) (fun c1 => ?_)
  · replace hw := hw.1 c1
    refine lv_bipush (v := (-2)) hx hb dX10_feed_11 (by decide) ?_
    exact W.iret (v := (-2)) hx hb hr (fun t ht hW => ⟨⟨(-2), (i_t_now_bytes, f_t_now_tape), rfl, hw, post_mk ht hP hD⟩, hS.F ht⟩) hS.2.2 dX10_feed_13 hlocks
  · replace hw := hw.2 c1
    refine lv_iload_n hx hb dX10_feed_5 rfl (lv_at hl 2 rfl) ?_
    refine lv_bipush (v := 8) hx hb dX10_feed_6 (by decide) ?_
    refine lv_icmp_le (tgt := 14) hx hb dX10_feed_8 (by decide) (fun c2 => ?_) (fun c2 => ?_)
    · replace hw := hw.1 c2
      refine lv_aload_n hx hb dX10_feed_14 rfl (lv_at hl 0 rfl) ?_
      refine va_get (D := D) (ci := 9) (v := .ref a_t_now) (C := RX10) (T := TX10) (N := 7) hx hb hts inX10_feed_X10 hown hK hP 0 rfl rfl 0 (by decide) (hts _ (List.mem_of_getElem? (i := 1) rfl)) (fun _ h9 => h9) rfl dX10_feed_15 ?_
      refine va_get (D := D) (ci := 8) (v := .int i_t_now_bytes) (C := RX9) (T := TX9) (N := 7) hx hb hts inX10_feed_X9 hown hK hP 1 rfl rfl 1 (by decide) (hts _ (List.mem_of_getElem? (i := 2) rfl)) (fun _ h9 => h9) rfl dX10_feed_18 ?_
      refine lv_iload_n hx hb dX10_feed_21 rfl (lv_at hl 2 rfl) ?_
      refine lv_iadd hx hb dX10_feed_22 ?_
      refine lv_bipush (v := 120) hx hb dX10_feed_23 (by decide) ?_
      refine lv_icmp_le (tgt := 31) hx hb dX10_feed_25 (by decide) (fun c3 => ?_) (fun c3 => ?_)
      · replace hw := hw.1 c3
        refine lv_iload_n hx hb dX10_feed_31 rfl (lv_at hl 2 rfl) ?_
        refine lv_iconst (v := 1) hx hb dX10_feed_32 (by decide) ?_
        refine lv_isub hx hb dX10_feed_33 ?_
        refine lv_topi (fun y4 ey4 => ?_)
        replace hw := hw y4 ey4
        refine lv_istore (lv' := [(4, .int y4), (0, .ref a_t), (1, .long x1), (3, .int x3)]) hx hb dX10_feed_34 hl (by decide) rfl (fun ls hl => ?_)
        obtain ⟨nn, hw⟩ := hw
        exact B36 nn y4 i_t_now_bytes f_t_now_tape hw _ _ hP hD hS _ (lv_sub hl [1, 2, 0] rfl)
      · replace hw := hw.2 c3
        refine lv_bipush (v := (-4)) hx hb dX10_feed_28 (by decide) ?_
        exact W.iret (v := (-4)) hx hb hr (fun t ht hW => ⟨⟨(-4), (i_t_now_bytes, f_t_now_tape), rfl, hw, post_mk ht hP hD⟩, hS.F ht⟩) hS.2.2 dX10_feed_30 hlocks
    · replace hw := hw.2 c2
      refine lv_bipush (v := (-2)) hx hb dX10_feed_11 (by decide) ?_
      exact W.iret (v := (-2)) hx hb hr (fun t ht hW => ⟨⟨(-2), (i_t_now_bytes, f_t_now_tape), rfl, hw, post_mk ht hP hD⟩, hS.F ht⟩) hS.2.2 dX10_feed_13 hlocks
set_option maxHeartbeats 8000000 in
set_option maxRecDepth 100000 in
theorem MX10_copyRow (l : Launch) (D : va_G) (cyI cyZ cyC : ClassId) (ro : va_W) (ce : Nat → CT) (cin : Nat → Prop) (ad : AD) (a_p0 a_p1 : Nat) (sz : Nat) (n_p0 : Nat) (n_p1 : Nat) (f_p0 : Nat → Int32) (f_p1 : Nat → Int32) (Q : (Nat → Int32) → Prop)  (hw : WX10_copyRow n_p0 n_p1 f_p0 f_p1 Q) : Met l yX10_copyRow wsX10_copyRow ({ frames := 1, cells := 0, slots := 0, locals := 60 }) (va_Pc [.ref a_p0, .ref a_p1] (PRE D cyI cyZ cyC ro ce cin ad (SX10_copyRow cyI cyZ cyC a_p0 a_p1  n_p0 n_p1 f_p0 f_p1) sz)) (va_Qv (fun (u : (Nat → Int32)) => Q u) (fun (u : (Nat → Int32)) (t : State) => POST D (va_A (SX10_copyRow cyI cyZ cyC a_p0 a_p1  n_p0 n_p1 f_p0 f_p1) sz) (SX10_copyRow cyI cyZ cyC a_p0 a_p1  n_p0 n_p1 f_p0 u) t) (va_A (SX10_copyRow cyI cyZ cyC a_p0 a_p1  n_p0 n_p1 f_p0 f_p1) sz)) 0 0 (va_A (SX10_copyRow cyI cyZ cyC a_p0 a_p1  n_p0 n_p1 f_p0 f_p1) sz) := by
  refine Met.ofW (cc := cX10_copyRow) (maxL := 2) (ret := none) (by decide +kernel) rfl ?_
  intro p e s m args below meth c s₁ B hml hv
  obtain ⟨rfl, hsz, hP, hK, hD0, hX⟩ := hv
  have hx := B.exec
  have hb := B.bytes
  have hr := B.returns
  have hts := atoms_spec (ws := wsX10_copyRow) B.pre
  have hown : s.vm.findClass RX10 = some m.cls := findClass_of_methodNamed B.named
  have hlocks := B.notSynchronized
  clear B
  subst hsz
  have hD := hD0.self (sz := s.heap.size)
  clear hD0
  generalize hAe : va_A (SX10_copyRow cyI cyZ cyC a_p0 a_p1  n_p0 n_p1 f_p0 f_p1) s.heap.size = A at hD hX ⊢
  have hA : ∀ q : Nat, s.heap.size ≤ q → A q := fun q h => by rw [← hAe]; exact Or.inr h
  clear hAe
  obtain ⟨H, hH⟩ : ∃ H, H = s.heap := ⟨_, rfl⟩
  rw [← hH] at hP ⊢
  have hS : va_S A s.heap H [] := by rw [hH]; exact va_S.rf
  clear hH
  replace hP : va_P D vwCl [(a_p0, .inl (cyI, n_p0, .inl f_p0)), (a_p1, .inl (cyI, n_p1, .inl f_p1))] H := hP
  replace hD : va_D A [(a_p0, .inl (cyI, n_p0, .inl f_p0)), (a_p1, .inl (cyI, n_p1, .inl f_p1))] := hD
  have hl := lv_entry ([.ref a_p0, .ref a_p1]) (n := 2) (Nat.le_of_ble_eq_true rfl)
  rw [lg_entry_eq]
  generalize (lg_sl ([.ref a_p0, .ref a_p1]) ++ List.replicate (2 - (lg_sl ([.ref a_p0, .ref a_p1])).length) Slot.unset).toArray = ls at hl ⊢
  replace hl : lv_has ls 2 [(0, .ref a_p0), (1, .ref a_p1)] := hl
  unfold WX10_copyRow at hw
  refine lv_aload_n hx hb dX10_copyRow_0 rfl (lv_at hl 0 rfl) ?_
  refine lv_iconst (v := 0) hx hb dX10_copyRow_1 (by decide) ?_
  refine lv_aload_n hx hb dX10_copyRow_2 rfl (lv_at hl 1 rfl) ?_
  refine lv_iconst (v := 0) hx hb dX10_copyRow_3 (by decide) ?_
  refine lv_aload_n hx hb dX10_copyRow_4 rfl (lv_at hl 0 rfl) ?_
  refine va_alen (v := nI n_p0) hx hb hK hP 0 0 rfl rfl rfl dX10_copyRow_5 ?_
  refine lv_aload_n hx hb dX10_copyRow_6 rfl (lv_at hl 1 rfl) ?_
  refine va_alen (v := nI n_p1) hx hb hK hP 1 0 rfl rfl rfl dX10_copyRow_7 ?_
  refine va_mmin hx hb (hml.trans hl.1.symm) hown (hts _ (List.mem_of_getElem? (i := 1) rfl)) (hts _ (List.mem_of_getElem? (i := 2) rfl)) (hts _ (List.mem_of_getElem? (i := 3) rfl)) (hts _ (List.mem_of_getElem? (i := 4) rfl)) (Nat.le_of_ble_eq_true rfl) (Nat.le_of_ble_eq_true rfl) (Nat.zero_le _) (Nat.zero_le _) dX10_copyRow_8 ?_
  have h1 := hw.1
  replace hw := hw.2
  have h2 := hw.1
  replace hw := hw.2
  have h3 := hw.1
  replace hw := hw.2
  refine va_copyi (ty := .int) hx hb (hml.trans hl.1.symm) hown (hts _ (List.mem_of_getElem? (i := 5) rfl)) (hts _ (List.mem_of_getElem? (i := 6) rfl)) (hts _ (List.mem_of_getElem? (i := 7) rfl)) (hts _ (List.mem_of_getElem? (i := 8) rfl)) hK hP hD hS 0 1 0 0 rfl rfl rfl rfl rfl (by decide) (by decide) h1 h2 h3 (fun _ _ => rfl) (Nat.le_of_ble_eq_true rfl) (Nat.le_of_ble_eq_true rfl) dX10_copyRow_11 (fun H locs hP hD hS => ?_)
  replace hP : va_P D vwCl [(a_p0, .inl (cyI, n_p0, .inl f_p0)), (a_p1, .inl (cyI, n_p1, .inl (va_cpy f_p0 f_p1 (0 : Int32).toNatClampNeg (0 : Int32).toNatClampNeg (if (nI n_p1) < (nI n_p0) then (nI n_p1) else (nI n_p0)).toNatClampNeg)))] H := hP
  replace hD : va_D A [(a_p0, .inl (cyI, n_p0, .inl f_p0)), (a_p1, .inl (cyI, n_p1, .inl (va_cpy f_p0 f_p1 (0 : Int32).toNatClampNeg (0 : Int32).toNatClampNeg (if (nI n_p1) < (nI n_p0) then (nI n_p1) else (nI n_p0)).toNatClampNeg)))] := hD
  exact W.vret hx hb hr (fun t ht hW => ⟨⟨va_cpy f_p0 f_p1 (0 : Int32).toNatClampNeg (0 : Int32).toNatClampNeg (if (nI n_p1) < (nI n_p0) then (nI n_p1) else (nI n_p0)).toNatClampNeg, rfl, hw, post_mk ht hP hD⟩, hS.F ht⟩) hS.2.2 dX10_copyRow_14 hlocks
set_option maxHeartbeats 8000000 in
set_option maxRecDepth 100000 in
theorem MX2_begin_X4 (l : Launch) (D : va_G) (cyI cyZ cyC : ClassId) (ro : va_W) (ce : Nat → CT) (cin : Nat → Prop) (ad : AD) (a_p1 a_p1_tape a_t a_t_tape : Nat) (w_p1_river w_p1_cards w_p1_cardCount w_p1_toldRain w_p1_toldHours w_t_read : Value) (sz : Nat) (i_p1_bytes : Int32) (f_p1_tape : Nat → Int32) (i_t_size : Int32) (i_t_place : Int32) (i_t_fault : Int32) (f_t_tape : Nat → Int32) (Q : Int32 → Int32 → Int32 → (Nat → Int32) → Prop)  (hw : WX2_begin_X4 i_p1_bytes f_p1_tape i_t_size i_t_place i_t_fault f_t_tape Q) : Met l yX2_begin wsX2_begin ({ frames := 2, cells := 0, slots := 0, locals := 81 }) (va_Pc [.ref a_t, .ref a_p1] (PRE D cyI cyZ cyC ro ce cin ad (SX2_begin_X4 cyI cyZ cyC a_p1 a_p1_tape a_t a_t_tape w_p1_river w_p1_cards w_p1_cardCount w_p1_toldRain w_p1_toldHours w_t_read  i_p1_bytes f_p1_tape i_t_size i_t_place i_t_fault f_t_tape) sz)) (va_Qv (fun (u : Int32 × Int32 × Int32 × (Nat → Int32)) => Q u.1 u.2.1 u.2.2.1 u.2.2.2) (fun (u : Int32 × Int32 × Int32 × (Nat → Int32)) (t : State) => POST D (va_A (SX2_begin_X4 cyI cyZ cyC a_p1 a_p1_tape a_t a_t_tape w_p1_river w_p1_cards w_p1_cardCount w_p1_toldRain w_p1_toldHours w_t_read  i_p1_bytes f_p1_tape i_t_size i_t_place i_t_fault f_t_tape) sz) (SX2_begin_X4 cyI cyZ cyC a_p1 a_p1_tape a_t a_t_tape w_p1_river w_p1_cards w_p1_cardCount w_p1_toldRain w_p1_toldHours w_t_read  i_p1_bytes f_p1_tape u.1 u.2.1 u.2.2.1 u.2.2.2) t) (va_A (SX2_begin_X4 cyI cyZ cyC a_p1 a_p1_tape a_t a_t_tape w_p1_river w_p1_cards w_p1_cardCount w_p1_toldRain w_p1_toldHours w_t_read  i_p1_bytes f_p1_tape i_t_size i_t_place i_t_fault f_t_tape) sz)) 0 0 (va_A (SX2_begin_X4 cyI cyZ cyC a_p1 a_p1_tape a_t a_t_tape w_p1_river w_p1_cards w_p1_cardCount w_p1_toldRain w_p1_toldHours w_t_read  i_p1_bytes f_p1_tape i_t_size i_t_place i_t_fault f_t_tape) sz) := by
  refine Met.ofW (cc := cX2_begin) (maxL := 2) (ret := none) (by decide +kernel) rfl ?_
  intro p e s m args below meth c s₁ B hml hv
  obtain ⟨rfl, hsz, hP, hK, hD0, hX⟩ := hv
  have hx := B.exec
  have hb := B.bytes
  have hr := B.returns
  have hts := atoms_spec (ws := wsX2_begin) B.pre
  have hown : s.vm.findClass RX2 = some m.cls := findClass_of_methodNamed B.named
  have hlocks := B.notSynchronized
  clear B
  subst hsz
  have hD := hD0.self (sz := s.heap.size)
  clear hD0
  generalize hAe : va_A (SX2_begin_X4 cyI cyZ cyC a_p1 a_p1_tape a_t a_t_tape w_p1_river w_p1_cards w_p1_cardCount w_p1_toldRain w_p1_toldHours w_t_read  i_p1_bytes f_p1_tape i_t_size i_t_place i_t_fault f_t_tape) s.heap.size = A at hD hX ⊢
  have hA : ∀ q : Nat, s.heap.size ≤ q → A q := fun q h => by rw [← hAe]; exact Or.inr h
  clear hAe
  obtain ⟨H, hH⟩ : ∃ H, H = s.heap := ⟨_, rfl⟩
  rw [← hH] at hP ⊢
  have hS : va_S A s.heap H [] := by rw [hH]; exact va_S.rf
  clear hH
  replace hP : va_P D vwCl [(a_p1, .inr (8, [.ref a_p1_tape, .int i_p1_bytes, w_p1_river, w_p1_cards, w_p1_cardCount, w_p1_toldRain, w_p1_toldHours])), (a_p1_tape, .inl (cyI, 120, .inl f_p1_tape)), (a_t, .inr (3, [.ref a_t_tape, .int i_t_size, .int i_t_place, .int i_t_fault, w_t_read])), (a_t_tape, .inl (cyI, 120, .inl f_t_tape))] H := hP
  replace hD : va_D A [(a_p1, .inr (8, [.ref a_p1_tape, .int i_p1_bytes, w_p1_river, w_p1_cards, w_p1_cardCount, w_p1_toldRain, w_p1_toldHours])), (a_p1_tape, .inl (cyI, 120, .inl f_p1_tape)), (a_t, .inr (3, [.ref a_t_tape, .int i_t_size, .int i_t_place, .int i_t_fault, w_t_read])), (a_t_tape, .inl (cyI, 120, .inl f_t_tape))] := hD
  have hl := lv_entry ([.ref a_t, .ref a_p1]) (n := 2) (Nat.le_of_ble_eq_true rfl)
  rw [lg_entry_eq]
  generalize (lg_sl ([.ref a_t, .ref a_p1]) ++ List.replicate (2 - (lg_sl ([.ref a_t, .ref a_p1])).length) Slot.unset).toArray = ls at hl ⊢
  replace hl : lv_has ls 2 [(0, .ref a_t), (1, .ref a_p1)] := hl
  unfold WX2_begin_X4 at hw
  refine lv_aload_n hx hb dX2_begin_0 rfl (lv_at hl 1 rfl) ?_
  refine va_get (D := D) (ci := 8) (v := .ref a_p1_tape) (C := RX9) (T := TX9) (N := 7) hx hb hts inX2_begin_X9 hown hK hP 0 rfl rfl 0 (by decide) (hts _ (List.mem_of_getElem? (i := 1) rfl)) (fun _ h9 => h9) rfl dX2_begin_1 ?_
  refine lv_aload_n hx hb dX2_begin_4 rfl (lv_at hl 0 rfl) ?_
  refine va_get (D := D) (ci := 3) (v := .ref a_t_tape) (C := RX4) (T := TX4) (N := 5) hx hb hts inX2_begin_X4 hown hK hP 2 rfl rfl 0 (by decide) (hts _ (List.mem_of_getElem? (i := 2) rfl)) (fun _ h9 => h9) rfl dX2_begin_5 ?_
  obtain ⟨QK, eQ, hq⟩ := genq (P := WX10_copyRow 120 120 f_p1_tape f_t_tape) hw
  clear hw
  have hPc := hP.sub (ws' := [(a_p1_tape, .inl (cyI, 120, .inl f_p1_tape)), (a_t_tape, .inl (cyI, 120, .inl f_t_tape))]) [1, 3] rfl
  have hDc := hD.sub (ws' := [(a_p1_tape, .inl (cyI, 120, .inl f_p1_tape)), (a_t_tape, .inl (cyI, 120, .inl f_t_tape))]) [1, 3] (by decide) rfl
  have hFc := va_free (wc := [(a_p1_tape, .inl (cyI, 120, .inl f_p1_tape)), (a_t_tape, .inl (cyI, 120, .inl f_t_tape))]) hD hS hA [1, 3] rfl
  refine va_callv (va_runSN (As := [.ref a_p1_tape, .ref a_t_tape]) (rest := []) ⟨hx, hb, hml, hown, hts⟩ (MX10_copyRow l D cyI cyZ cyC ro ce cin ad a_p1_tape a_t_tape   H.size 120 120 f_p1_tape f_t_tape QK  hq) ⟨va_cnB 2 hts gX2_begin_X10_copyRow_n28 rfl rfl rfl (hX.env.2.2.1 _ (List.mem_of_getElem? (i := 11) rfl)) (hts _ (List.mem_of_getElem? (i := 15) rfl)) dmX10_copyRow ⟨Nat.le_of_ble_eq_true rfl, Nat.le_of_ble_eq_true rfl⟩, (hts _ (List.mem_of_getElem? (i := 14) rfl)), trivial⟩ ⟨pre_bl, fun U hU hW => ⟨rfl, pre_of hX hS hK hPc hDc hFc hU hW⟩⟩ rfl rfl hl.1 rfl (lv_room (Nat.le_of_ble_eq_true rfl)) dX2_begin_8 ⟨Nat.zero_le _, Nat.zero_le _⟩) hS (fun q _ h => hFc q h) hFc (fun u t H1 locs ht hvm hw hB hz1 hk1 hS => ?_)
  obtain ⟨f_t_tape_1, rfl⟩ : ∃ z, z = u := ⟨u, rfl⟩
  replace hw : QK f_t_tape_1 := hw
  clear hq
  subst eQ
  obtain ⟨hP1, hD1⟩ := hB
  rw [ht] at hP1
  obtain ⟨hP, hD⟩ := va_join (wr := [(a_p1, .inr (8, [.ref a_p1_tape, .int i_p1_bytes, w_p1_river, w_p1_cards, w_p1_cardCount, w_p1_toldRain, w_p1_toldHours])), (a_t, .inr (3, [.ref a_t_tape, .int i_t_size, .int i_t_place, .int i_t_fault, w_t_read]))]) (w1 := [(a_p1_tape, .inl (cyI, 120, .inl f_p1_tape)), (a_t_tape, .inl (cyI, 120, .inl f_t_tape_1))]) hP hD [1, 3] [0, 2] rfl rfl (by decide) (by decide) hk1 hFc hP1 hD1
  clear hPc hDc hFc hk1 hz1 hP1 hD1 ht hvm
  generalize H1 = H at hP hS ⊢
  replace hP : va_P D vwCl [(a_p1, .inr (8, [.ref a_p1_tape, .int i_p1_bytes, w_p1_river, w_p1_cards, w_p1_cardCount, w_p1_toldRain, w_p1_toldHours])), (a_t, .inr (3, [.ref a_t_tape, .int i_t_size, .int i_t_place, .int i_t_fault, w_t_read])), (a_p1_tape, .inl (cyI, 120, .inl f_p1_tape)), (a_t_tape, .inl (cyI, 120, .inl f_t_tape_1))] H := hP
  replace hD : va_D A [(a_p1, .inr (8, [.ref a_p1_tape, .int i_p1_bytes, w_p1_river, w_p1_cards, w_p1_cardCount, w_p1_toldRain, w_p1_toldHours])), (a_t, .inr (3, [.ref a_t_tape, .int i_t_size, .int i_t_place, .int i_t_fault, w_t_read])), (a_p1_tape, .inl (cyI, 120, .inl f_p1_tape)), (a_t_tape, .inl (cyI, 120, .inl f_t_tape_1))] := hD
  refine lv_aload_n hx hb dX2_begin_11 rfl (lv_at hl 0 rfl) ?_
  refine lv_iconst (v := 0) hx hb dX2_begin_12 (by decide) ?_
  refine lv_aload_n hx hb dX2_begin_13 rfl (lv_at hl 1 rfl) ?_
  refine va_get (D := D) (ci := 8) (v := .int i_p1_bytes) (C := RX9) (T := TX9) (N := 7) hx hb hts inX2_begin_X9 hown hK hP 0 rfl rfl 1 (by decide) (hts _ (List.mem_of_getElem? (i := 3) rfl)) (fun _ h9 => h9) rfl dX2_begin_14 ?_
  refine lv_aload_n hx hb dX2_begin_17 rfl (lv_at hl 0 rfl) ?_
  refine va_get (D := D) (ci := 3) (v := .ref a_t_tape) (C := RX4) (T := TX4) (N := 5) hx hb hts inX2_begin_X4 hown hK hP 1 rfl rfl 0 (by decide) (hts _ (List.mem_of_getElem? (i := 2) rfl)) (fun _ h9 => h9) rfl dX2_begin_18 ?_
  refine va_alen (v := 120) hx hb hK hP 3 0 rfl rfl rfl dX2_begin_21 ?_
  refine va_mmin hx hb (hml.trans hl.1.symm) hown (hts _ (List.mem_of_getElem? (i := 4) rfl)) (hts _ (List.mem_of_getElem? (i := 5) rfl)) (hts _ (List.mem_of_getElem? (i := 6) rfl)) (hts _ (List.mem_of_getElem? (i := 7) rfl)) (Nat.le_of_ble_eq_true rfl) (Nat.le_of_ble_eq_true rfl) (Nat.zero_le _) (Nat.zero_le _) dX2_begin_22 ?_
  refine va_mmax hx hb (hml.trans hl.1.symm) hown (hts _ (List.mem_of_getElem? (i := 8) rfl)) (hts _ (List.mem_of_getElem? (i := 9) rfl)) (hts _ (List.mem_of_getElem? (i := 6) rfl)) (hts _ (List.mem_of_getElem? (i := 10) rfl)) (Nat.le_of_ble_eq_true rfl) (Nat.le_of_ble_eq_true rfl) (Nat.zero_le _) (Nat.zero_le _) dX2_begin_25 ?_
  refine lv_topi (fun y2 ey2 => ?_)
  replace hw := hw y2 ey2
  refine va_put (D := D) (ci := 3) (v := .int y2) (ty := .int) (C := RX4) (T := TX4) (N := 5) hx hb hts inX2_begin_X4 tyX4 tyX4_ok nmX4 hown hK hP hD hS 1 rfl rfl 1 (by decide) (hts _ (List.mem_of_getElem? (i := 11) rfl)) (fun _ h9 => h9) rfl (tyX4_ok 1 (by decide)) rfl rfl (Nat.le_of_ble_eq_true rfl) dX2_begin_28 (fun H locs hP hD hS => ?_)
  replace hP : va_P D vwCl [(a_p1, .inr (8, [.ref a_p1_tape, .int i_p1_bytes, w_p1_river, w_p1_cards, w_p1_cardCount, w_p1_toldRain, w_p1_toldHours])), (a_t, .inr (3, [.ref a_t_tape, .int y2, .int i_t_place, .int i_t_fault, w_t_read])), (a_p1_tape, .inl (cyI, 120, .inl f_p1_tape)), (a_t_tape, .inl (cyI, 120, .inl f_t_tape_1))] H := hP
  replace hD : va_D A [(a_p1, .inr (8, [.ref a_p1_tape, .int i_p1_bytes, w_p1_river, w_p1_cards, w_p1_cardCount, w_p1_toldRain, w_p1_toldHours])), (a_t, .inr (3, [.ref a_t_tape, .int y2, .int i_t_place, .int i_t_fault, w_t_read])), (a_p1_tape, .inl (cyI, 120, .inl f_p1_tape)), (a_t_tape, .inl (cyI, 120, .inl f_t_tape_1))] := hD
  refine lv_aload_n hx hb dX2_begin_31 rfl (lv_at hl 0 rfl) ?_
  refine lv_iconst (v := 0) hx hb dX2_begin_32 (by decide) ?_
  refine va_put (D := D) (ci := 3) (v := .int 0) (ty := .int) (C := RX4) (T := TX4) (N := 5) hx hb hts inX2_begin_X4 tyX4 tyX4_ok nmX4 hown hK hP hD hS 1 rfl rfl 2 (by decide) (hts _ (List.mem_of_getElem? (i := 12) rfl)) (fun _ h9 => h9) rfl (tyX4_ok 2 (by decide)) rfl rfl (Nat.le_of_ble_eq_true rfl) dX2_begin_33 (fun H locs hP hD hS => ?_)
  replace hP : va_P D vwCl [(a_p1, .inr (8, [.ref a_p1_tape, .int i_p1_bytes, w_p1_river, w_p1_cards, w_p1_cardCount, w_p1_toldRain, w_p1_toldHours])), (a_t, .inr (3, [.ref a_t_tape, .int y2, .int 0, .int i_t_fault, w_t_read])), (a_p1_tape, .inl (cyI, 120, .inl f_p1_tape)), (a_t_tape, .inl (cyI, 120, .inl f_t_tape_1))] H := hP
  replace hD : va_D A [(a_p1, .inr (8, [.ref a_p1_tape, .int i_p1_bytes, w_p1_river, w_p1_cards, w_p1_cardCount, w_p1_toldRain, w_p1_toldHours])), (a_t, .inr (3, [.ref a_t_tape, .int y2, .int 0, .int i_t_fault, w_t_read])), (a_p1_tape, .inl (cyI, 120, .inl f_p1_tape)), (a_t_tape, .inl (cyI, 120, .inl f_t_tape_1))] := hD
  refine lv_aload_n hx hb dX2_begin_36 rfl (lv_at hl 0 rfl) ?_
  refine lv_iconst (v := (-1)) hx hb dX2_begin_37 (by decide) ?_
  refine va_put (D := D) (ci := 3) (v := .int (-1)) (ty := .int) (C := RX4) (T := TX4) (N := 5) hx hb hts inX2_begin_X4 tyX4 tyX4_ok nmX4 hown hK hP hD hS 1 rfl rfl 3 (by decide) (hts _ (List.mem_of_getElem? (i := 13) rfl)) (fun _ h9 => h9) rfl (tyX4_ok 3 (by decide)) rfl rfl (Nat.le_of_ble_eq_true rfl) dX2_begin_38 (fun H locs hP hD hS => ?_)
  replace hP : va_P D vwCl [(a_p1, .inr (8, [.ref a_p1_tape, .int i_p1_bytes, w_p1_river, w_p1_cards, w_p1_cardCount, w_p1_toldRain, w_p1_toldHours])), (a_t, .inr (3, [.ref a_t_tape, .int y2, .int 0, .int (-1), w_t_read])), (a_p1_tape, .inl (cyI, 120, .inl f_p1_tape)), (a_t_tape, .inl (cyI, 120, .inl f_t_tape_1))] H := hP
  replace hD : va_D A [(a_p1, .inr (8, [.ref a_p1_tape, .int i_p1_bytes, w_p1_river, w_p1_cards, w_p1_cardCount, w_p1_toldRain, w_p1_toldHours])), (a_t, .inr (3, [.ref a_t_tape, .int y2, .int 0, .int (-1), w_t_read])), (a_p1_tape, .inl (cyI, 120, .inl f_p1_tape)), (a_t_tape, .inl (cyI, 120, .inl f_t_tape_1))] := hD
  have hPj := hP.sub (ws' := [(a_p1, .inr (8, [.ref a_p1_tape, .int i_p1_bytes, w_p1_river, w_p1_cards, w_p1_cardCount, w_p1_toldRain, w_p1_toldHours])), (a_p1_tape, .inl (cyI, 120, .inl f_p1_tape)), (a_t, .inr (3, [.ref a_t_tape, .int y2, .int 0, .int (-1), w_t_read])), (a_t_tape, .inl (cyI, 120, .inl f_t_tape_1))]) [0, 2, 1, 3] rfl
  have hDj := hD.sub (ws' := [(a_p1, .inr (8, [.ref a_p1_tape, .int i_p1_bytes, w_p1_river, w_p1_cards, w_p1_cardCount, w_p1_toldRain, w_p1_toldHours])), (a_p1_tape, .inl (cyI, 120, .inl f_p1_tape)), (a_t, .inr (3, [.ref a_t_tape, .int y2, .int 0, .int (-1), w_t_read])), (a_t_tape, .inl (cyI, 120, .inl f_t_tape_1))]) [0, 2, 1, 3] (by decide) rfl
  exact W.vret hx hb hr (fun t ht hW => ⟨⟨(y2, 0, (-1), f_t_tape_1), rfl, hw, post_mk ht hPj hDj⟩, hS.F ht⟩) hS.2.2 dX2_begin_41 hlocks
set_option maxHeartbeats 8000000 in
set_option maxRecDepth 100000 in
theorem MX3_clear (l : Launch) (D : va_G) (cyI cyZ cyC : ClassId) (ro : va_W) (ce : Nat → CT) (cin : Nat → Prop) (ad : AD) (a_t a_t_water : Nat) (w_t_bank w_t_mill w_t_hung w_t_water_level w_t_water_boards w_t_water_way w_t_water_beforeRain w_t_water_rainBefore w_t_water_next : Value) (sz : Nat) (i_t_reaches : Int32) (i_t_span : Int32) (i_t_sum : Int32) (i_t_odds : Int32) (i_t_water_hour : Int32) (Q : Int32 → Int32 → Int32 → Int32 → Int32 → Prop)  (hw : WX3_clear i_t_reaches i_t_span i_t_sum i_t_odds i_t_water_hour Q) : Met l yX3_clear wsX3_clear ({ frames := 0, cells := 0, slots := 0, locals := 0 }) (va_Pc [.ref a_t] (PRE D cyI cyZ cyC ro ce cin ad (SX3_clear cyI cyZ cyC a_t a_t_water w_t_bank w_t_mill w_t_hung w_t_water_level w_t_water_boards w_t_water_way w_t_water_beforeRain w_t_water_rainBefore w_t_water_next  i_t_reaches i_t_span i_t_sum i_t_odds i_t_water_hour) sz)) (va_Qv (fun (u : Int32 × Int32 × Int32 × Int32 × Int32) => Q u.1 u.2.1 u.2.2.1 u.2.2.2.1 u.2.2.2.2) (fun (u : Int32 × Int32 × Int32 × Int32 × Int32) (t : State) => POST D (va_A (SX3_clear cyI cyZ cyC a_t a_t_water w_t_bank w_t_mill w_t_hung w_t_water_level w_t_water_boards w_t_water_way w_t_water_beforeRain w_t_water_rainBefore w_t_water_next  i_t_reaches i_t_span i_t_sum i_t_odds i_t_water_hour) sz) (SX3_clear cyI cyZ cyC a_t a_t_water w_t_bank w_t_mill w_t_hung w_t_water_level w_t_water_boards w_t_water_way w_t_water_beforeRain w_t_water_rainBefore w_t_water_next  u.1 u.2.1 u.2.2.1 u.2.2.2.1 u.2.2.2.2) t) (va_A (SX3_clear cyI cyZ cyC a_t a_t_water w_t_bank w_t_mill w_t_hung w_t_water_level w_t_water_boards w_t_water_way w_t_water_beforeRain w_t_water_rainBefore w_t_water_next  i_t_reaches i_t_span i_t_sum i_t_odds i_t_water_hour) sz)) 0 0 (va_A (SX3_clear cyI cyZ cyC a_t a_t_water w_t_bank w_t_mill w_t_hung w_t_water_level w_t_water_boards w_t_water_way w_t_water_beforeRain w_t_water_rainBefore w_t_water_next  i_t_reaches i_t_span i_t_sum i_t_odds i_t_water_hour) sz) := by
  refine Met.ofW (cc := cX3_clear) (maxL := 1) (ret := none) (by decide +kernel) rfl ?_
  intro p e s m args below meth c s₁ B hml hv
  obtain ⟨rfl, hsz, hP, hK, hD0, hX⟩ := hv
  have hx := B.exec
  have hb := B.bytes
  have hr := B.returns
  have hts := atoms_spec (ws := wsX3_clear) B.pre
  have hown : s.vm.findClass RX3 = some m.cls := findClass_of_methodNamed B.named
  have hlocks := B.notSynchronized
  clear B
  subst hsz
  have hD := hD0.self (sz := s.heap.size)
  clear hD0
  generalize hAe : va_A (SX3_clear cyI cyZ cyC a_t a_t_water w_t_bank w_t_mill w_t_hung w_t_water_level w_t_water_boards w_t_water_way w_t_water_beforeRain w_t_water_rainBefore w_t_water_next  i_t_reaches i_t_span i_t_sum i_t_odds i_t_water_hour) s.heap.size = A at hD hX ⊢
  have hA : ∀ q : Nat, s.heap.size ≤ q → A q := fun q h => by rw [← hAe]; exact Or.inr h
  clear hAe
  obtain ⟨H, hH⟩ : ∃ H, H = s.heap := ⟨_, rfl⟩
  rw [← hH] at hP ⊢
  have hS : va_S A s.heap H [] := by rw [hH]; exact va_S.rf
  clear hH
  replace hP : va_P D vwCl [(a_t, .inr (2, [.int i_t_reaches, .int i_t_span, .int i_t_sum, .int i_t_odds, w_t_bank, w_t_mill, w_t_hung, .ref a_t_water])), (a_t_water, .inr (7, [w_t_water_level, w_t_water_boards, w_t_water_way, w_t_water_beforeRain, .int i_t_water_hour, w_t_water_rainBefore, w_t_water_next]))] H := hP
  replace hD : va_D A [(a_t, .inr (2, [.int i_t_reaches, .int i_t_span, .int i_t_sum, .int i_t_odds, w_t_bank, w_t_mill, w_t_hung, .ref a_t_water])), (a_t_water, .inr (7, [w_t_water_level, w_t_water_boards, w_t_water_way, w_t_water_beforeRain, .int i_t_water_hour, w_t_water_rainBefore, w_t_water_next]))] := hD
  have hl := lv_entry ([.ref a_t]) (n := 1) (Nat.le_of_ble_eq_true rfl)
  rw [lg_entry_eq]
  generalize (lg_sl ([.ref a_t]) ++ List.replicate (1 - (lg_sl ([.ref a_t])).length) Slot.unset).toArray = ls at hl ⊢
  replace hl : lv_has ls 1 [(0, .ref a_t)] := hl
  unfold WX3_clear at hw
  refine lv_aload_n hx hb dX3_clear_0 rfl (lv_at hl 0 rfl) ?_
  refine lv_iconst (v := 0) hx hb dX3_clear_1 (by decide) ?_
  refine va_put (D := D) (ci := 2) (v := .int 0) (ty := .int) (C := RX3) (T := TX3) (N := 8) hx hb hts inX3_clear_X3 tyX3 tyX3_ok nmX3 hown hK hP hD hS 0 rfl rfl 0 (by decide) (hts _ (List.mem_of_getElem? (i := 1) rfl)) (fun _ h9 => h9) rfl (tyX3_ok 0 (by decide)) rfl rfl (Nat.le_of_ble_eq_true rfl) dX3_clear_2 (fun H locs hP hD hS => ?_)
  replace hP : va_P D vwCl [(a_t, .inr (2, [.int 0, .int i_t_span, .int i_t_sum, .int i_t_odds, w_t_bank, w_t_mill, w_t_hung, .ref a_t_water])), (a_t_water, .inr (7, [w_t_water_level, w_t_water_boards, w_t_water_way, w_t_water_beforeRain, .int i_t_water_hour, w_t_water_rainBefore, w_t_water_next]))] H := hP
  replace hD : va_D A [(a_t, .inr (2, [.int 0, .int i_t_span, .int i_t_sum, .int i_t_odds, w_t_bank, w_t_mill, w_t_hung, .ref a_t_water])), (a_t_water, .inr (7, [w_t_water_level, w_t_water_boards, w_t_water_way, w_t_water_beforeRain, .int i_t_water_hour, w_t_water_rainBefore, w_t_water_next]))] := hD
  refine lv_aload_n hx hb dX3_clear_5 rfl (lv_at hl 0 rfl) ?_
  refine lv_iconst (v := 3) hx hb dX3_clear_6 (by decide) ?_
  refine va_put (D := D) (ci := 2) (v := .int 3) (ty := .int) (C := RX3) (T := TX3) (N := 8) hx hb hts inX3_clear_X3 tyX3 tyX3_ok nmX3 hown hK hP hD hS 0 rfl rfl 1 (by decide) (hts _ (List.mem_of_getElem? (i := 2) rfl)) (fun _ h9 => h9) rfl (tyX3_ok 1 (by decide)) rfl rfl (Nat.le_of_ble_eq_true rfl) dX3_clear_7 (fun H locs hP hD hS => ?_)
  replace hP : va_P D vwCl [(a_t, .inr (2, [.int 0, .int 3, .int i_t_sum, .int i_t_odds, w_t_bank, w_t_mill, w_t_hung, .ref a_t_water])), (a_t_water, .inr (7, [w_t_water_level, w_t_water_boards, w_t_water_way, w_t_water_beforeRain, .int i_t_water_hour, w_t_water_rainBefore, w_t_water_next]))] H := hP
  replace hD : va_D A [(a_t, .inr (2, [.int 0, .int 3, .int i_t_sum, .int i_t_odds, w_t_bank, w_t_mill, w_t_hung, .ref a_t_water])), (a_t_water, .inr (7, [w_t_water_level, w_t_water_boards, w_t_water_way, w_t_water_beforeRain, .int i_t_water_hour, w_t_water_rainBefore, w_t_water_next]))] := hD
  refine lv_aload_n hx hb dX3_clear_10 rfl (lv_at hl 0 rfl) ?_
  refine lv_bipush (v := 9) hx hb dX3_clear_11 (by decide) ?_
  refine va_put (D := D) (ci := 2) (v := .int 9) (ty := .int) (C := RX3) (T := TX3) (N := 8) hx hb hts inX3_clear_X3 tyX3 tyX3_ok nmX3 hown hK hP hD hS 0 rfl rfl 2 (by decide) (hts _ (List.mem_of_getElem? (i := 3) rfl)) (fun _ h9 => h9) rfl (tyX3_ok 2 (by decide)) rfl rfl (Nat.le_of_ble_eq_true rfl) dX3_clear_13 (fun H locs hP hD hS => ?_)
  replace hP : va_P D vwCl [(a_t, .inr (2, [.int 0, .int 3, .int 9, .int i_t_odds, w_t_bank, w_t_mill, w_t_hung, .ref a_t_water])), (a_t_water, .inr (7, [w_t_water_level, w_t_water_boards, w_t_water_way, w_t_water_beforeRain, .int i_t_water_hour, w_t_water_rainBefore, w_t_water_next]))] H := hP
  replace hD : va_D A [(a_t, .inr (2, [.int 0, .int 3, .int 9, .int i_t_odds, w_t_bank, w_t_mill, w_t_hung, .ref a_t_water])), (a_t_water, .inr (7, [w_t_water_level, w_t_water_boards, w_t_water_way, w_t_water_beforeRain, .int i_t_water_hour, w_t_water_rainBefore, w_t_water_next]))] := hD
  refine lv_aload_n hx hb dX3_clear_16 rfl (lv_at hl 0 rfl) ?_
  refine lv_iconst (v := 5) hx hb dX3_clear_17 (by decide) ?_
  refine va_put (D := D) (ci := 2) (v := .int 5) (ty := .int) (C := RX3) (T := TX3) (N := 8) hx hb hts inX3_clear_X3 tyX3 tyX3_ok nmX3 hown hK hP hD hS 0 rfl rfl 3 (by decide) (hts _ (List.mem_of_getElem? (i := 4) rfl)) (fun _ h9 => h9) rfl (tyX3_ok 3 (by decide)) rfl rfl (Nat.le_of_ble_eq_true rfl) dX3_clear_18 (fun H locs hP hD hS => ?_)
  replace hP : va_P D vwCl [(a_t, .inr (2, [.int 0, .int 3, .int 9, .int 5, w_t_bank, w_t_mill, w_t_hung, .ref a_t_water])), (a_t_water, .inr (7, [w_t_water_level, w_t_water_boards, w_t_water_way, w_t_water_beforeRain, .int i_t_water_hour, w_t_water_rainBefore, w_t_water_next]))] H := hP
  replace hD : va_D A [(a_t, .inr (2, [.int 0, .int 3, .int 9, .int 5, w_t_bank, w_t_mill, w_t_hung, .ref a_t_water])), (a_t_water, .inr (7, [w_t_water_level, w_t_water_boards, w_t_water_way, w_t_water_beforeRain, .int i_t_water_hour, w_t_water_rainBefore, w_t_water_next]))] := hD
  refine lv_aload_n hx hb dX3_clear_21 rfl (lv_at hl 0 rfl) ?_
  refine va_get (D := D) (ci := 2) (v := .ref a_t_water) (C := RX3) (T := TX3) (N := 8) hx hb hts inX3_clear_X3 hown hK hP 0 rfl rfl 7 (by decide) (hts _ (List.mem_of_getElem? (i := 5) rfl)) (fun _ h9 => h9) rfl dX3_clear_22 ?_
  refine lv_iconst (v := 0) hx hb dX3_clear_25 (by decide) ?_
  refine va_put (D := D) (ci := 7) (v := .int 0) (ty := .int) (C := RX8) (T := TX8) (N := 7) hx hb hts inX3_clear_X8 tyX8 tyX8_ok nmX8 hown hK hP hD hS 1 rfl rfl 4 (by decide) (hts _ (List.mem_of_getElem? (i := 6) rfl)) (fun _ h9 => h9) rfl (tyX8_ok 4 (by decide)) rfl rfl (Nat.le_of_ble_eq_true rfl) dX3_clear_26 (fun H locs hP hD hS => ?_)
  replace hP : va_P D vwCl [(a_t, .inr (2, [.int 0, .int 3, .int 9, .int 5, w_t_bank, w_t_mill, w_t_hung, .ref a_t_water])), (a_t_water, .inr (7, [w_t_water_level, w_t_water_boards, w_t_water_way, w_t_water_beforeRain, .int 0, w_t_water_rainBefore, w_t_water_next]))] H := hP
  replace hD : va_D A [(a_t, .inr (2, [.int 0, .int 3, .int 9, .int 5, w_t_bank, w_t_mill, w_t_hung, .ref a_t_water])), (a_t_water, .inr (7, [w_t_water_level, w_t_water_boards, w_t_water_way, w_t_water_beforeRain, .int 0, w_t_water_rainBefore, w_t_water_next]))] := hD
  exact W.vret hx hb hr (fun t ht hW => ⟨⟨(0, 3, 9, 5, 0), rfl, hw, post_mk ht hP hD⟩, hS.F ht⟩) hS.2.2 dX3_clear_29 hlocks
set_option maxHeartbeats 8000000 in
set_option maxRecDepth 100000 in
theorem MX2_fail_X4 (l : Launch) (D : va_G) (cyI cyZ cyC : ClassId) (ro : va_W) (ce : Nat → CT) (cin : Nat → Prop) (ad : AD) (a_t : Nat) (w_t_tape w_t_size w_t_read : Value) (sz : Nat) (i_t_place : Int32) (i_t_fault : Int32) (Q : Int32 → Prop)  (hw : WX2_fail_X4 i_t_place i_t_fault Q) : Met l yX2_fail wsX2_fail ({ frames := 0, cells := 0, slots := 0, locals := 0 }) (va_Pc [.ref a_t] (PRE D cyI cyZ cyC ro ce cin ad (SX2_fail_X4 cyI cyZ cyC a_t w_t_tape w_t_size w_t_read  i_t_place i_t_fault) sz)) (va_Qv (fun (u : Int32) => Q u) (fun (u : Int32) (t : State) => POST D (va_A (SX2_fail_X4 cyI cyZ cyC a_t w_t_tape w_t_size w_t_read  i_t_place i_t_fault) sz) (SX2_fail_X4 cyI cyZ cyC a_t w_t_tape w_t_size w_t_read  i_t_place u) t) (va_A (SX2_fail_X4 cyI cyZ cyC a_t w_t_tape w_t_size w_t_read  i_t_place i_t_fault) sz)) 0 0 (va_A (SX2_fail_X4 cyI cyZ cyC a_t w_t_tape w_t_size w_t_read  i_t_place i_t_fault) sz) := by
  refine Met.ofW (cc := cX2_fail) (maxL := 1) (ret := none) (by decide +kernel) rfl ?_
  intro p e s m args below meth c s₁ B hml hv
  obtain ⟨rfl, hsz, hP, hK, hD0, hX⟩ := hv
  have hx := B.exec
  have hb := B.bytes
  have hr := B.returns
  have hts := atoms_spec (ws := wsX2_fail) B.pre
  have hown : s.vm.findClass RX2 = some m.cls := findClass_of_methodNamed B.named
  have hlocks := B.notSynchronized
  clear B
  subst hsz
  have hD := hD0.self (sz := s.heap.size)
  clear hD0
  generalize hAe : va_A (SX2_fail_X4 cyI cyZ cyC a_t w_t_tape w_t_size w_t_read  i_t_place i_t_fault) s.heap.size = A at hD hX ⊢
  have hA : ∀ q : Nat, s.heap.size ≤ q → A q := fun q h => by rw [← hAe]; exact Or.inr h
  clear hAe
  obtain ⟨H, hH⟩ : ∃ H, H = s.heap := ⟨_, rfl⟩
  rw [← hH] at hP ⊢
  have hS : va_S A s.heap H [] := by rw [hH]; exact va_S.rf
  clear hH
  replace hP : va_P D vwCl [(a_t, .inr (3, [w_t_tape, w_t_size, .int i_t_place, .int i_t_fault, w_t_read]))] H := hP
  replace hD : va_D A [(a_t, .inr (3, [w_t_tape, w_t_size, .int i_t_place, .int i_t_fault, w_t_read]))] := hD
  have hl := lv_entry ([.ref a_t]) (n := 1) (Nat.le_of_ble_eq_true rfl)
  rw [lg_entry_eq]
  generalize (lg_sl ([.ref a_t]) ++ List.replicate (1 - (lg_sl ([.ref a_t])).length) Slot.unset).toArray = ls at hl ⊢
  replace hl : lv_has ls 1 [(0, .ref a_t)] := hl
  unfold WX2_fail_X4 at hw
  refine lv_aload_n hx hb dX2_fail_0 rfl (lv_at hl 0 rfl) ?_
  refine va_get (D := D) (ci := 3) (v := .int i_t_fault) (C := RX4) (T := TX4) (N := 5) hx hb hts inX2_fail_X4 hown hK hP 0 rfl rfl 3 (by decide) (hts _ (List.mem_of_getElem? (i := 1) rfl)) (fun _ h9 => h9) rfl dX2_fail_1 ?_
  refine lv_if_ge (tgt := 15) hx hb dX2_fail_4 (by decide) (fun c1 => ?_) (fun c1 => ?_)
  · replace hw := hw.1 c1
    exact W.vret hx hb hr (fun t ht hW => ⟨⟨i_t_fault, rfl, hw, post_mk ht hP hD⟩, hS.F ht⟩) hS.2.2 dX2_fail_15 hlocks
  · replace hw := hw.2 c1
    refine lv_aload_n hx hb dX2_fail_7 rfl (lv_at hl 0 rfl) ?_
    refine lv_aload_n hx hb dX2_fail_8 rfl (lv_at hl 0 rfl) ?_
    refine va_get (D := D) (ci := 3) (v := .int i_t_place) (C := RX4) (T := TX4) (N := 5) hx hb hts inX2_fail_X4 hown hK hP 0 rfl rfl 2 (by decide) (hts _ (List.mem_of_getElem? (i := 2) rfl)) (fun _ h9 => h9) rfl dX2_fail_9 ?_
    refine va_put (D := D) (ci := 3) (v := .int i_t_place) (ty := .int) (C := RX4) (T := TX4) (N := 5) hx hb hts inX2_fail_X4 tyX4 tyX4_ok nmX4 hown hK hP hD hS 0 rfl rfl 3 (by decide) (hts _ (List.mem_of_getElem? (i := 1) rfl)) (fun _ h9 => h9) rfl (tyX4_ok 3 (by decide)) rfl rfl (Nat.le_of_ble_eq_true rfl) dX2_fail_12 (fun H locs hP hD hS => ?_)
    replace hP : va_P D vwCl [(a_t, .inr (3, [w_t_tape, w_t_size, .int i_t_place, .int i_t_place, w_t_read]))] H := hP
    replace hD : va_D A [(a_t, .inr (3, [w_t_tape, w_t_size, .int i_t_place, .int i_t_place, w_t_read]))] := hD
    exact W.vret hx hb hr (fun t ht hW => ⟨⟨i_t_place, rfl, hw, post_mk ht hP hD⟩, hS.F ht⟩) hS.2.2 dX2_fail_15 hlocks
set_option maxHeartbeats 8000000 in
set_option maxRecDepth 100000 in
theorem MX2_needsEnd_X4 (l : Launch) (D : va_G) (cyI cyZ cyC : ClassId) (ro : va_W) (ce : Nat → CT) (cin : Nat → Prop) (ad : AD) (a_t : Nat) (w_t_tape w_t_read : Value) (sz : Nat) (i_t_size : Int32) (i_t_place : Int32) (i_t_fault : Int32) (Q : Int32 → Prop)  (hw : WX2_needsEnd_X4 i_t_size i_t_place i_t_fault Q) : Met l yX2_needsEnd wsX2_needsEnd ({ frames := 1, cells := 0, slots := 0, locals := 20 }) (va_Pc [.ref a_t] (PRE D cyI cyZ cyC ro ce cin ad (SX2_needsEnd_X4 cyI cyZ cyC a_t w_t_tape w_t_read  i_t_size i_t_place i_t_fault) sz)) (va_Qv (fun (u : Int32) => Q u) (fun (u : Int32) (t : State) => POST D (va_A (SX2_needsEnd_X4 cyI cyZ cyC a_t w_t_tape w_t_read  i_t_size i_t_place i_t_fault) sz) (SX2_needsEnd_X4 cyI cyZ cyC a_t w_t_tape w_t_read  i_t_size i_t_place u) t) (va_A (SX2_needsEnd_X4 cyI cyZ cyC a_t w_t_tape w_t_read  i_t_size i_t_place i_t_fault) sz)) 0 0 (va_A (SX2_needsEnd_X4 cyI cyZ cyC a_t w_t_tape w_t_read  i_t_size i_t_place i_t_fault) sz) := by
  refine Met.ofW (cc := cX2_needsEnd) (maxL := 1) (ret := none) (by decide +kernel) rfl ?_
  intro p e s m args below meth c s₁ B hml hv
  obtain ⟨rfl, hsz, hP, hK, hD0, hX⟩ := hv
  have hx := B.exec
  have hb := B.bytes
  have hr := B.returns
  have hts := atoms_spec (ws := wsX2_needsEnd) B.pre
  have hown : s.vm.findClass RX2 = some m.cls := findClass_of_methodNamed B.named
  have hlocks := B.notSynchronized
  clear B
  subst hsz
  have hD := hD0.self (sz := s.heap.size)
  clear hD0
  generalize hAe : va_A (SX2_needsEnd_X4 cyI cyZ cyC a_t w_t_tape w_t_read  i_t_size i_t_place i_t_fault) s.heap.size = A at hD hX ⊢
  have hA : ∀ q : Nat, s.heap.size ≤ q → A q := fun q h => by rw [← hAe]; exact Or.inr h
  clear hAe
  obtain ⟨H, hH⟩ : ∃ H, H = s.heap := ⟨_, rfl⟩
  rw [← hH] at hP ⊢
  have hS : va_S A s.heap H [] := by rw [hH]; exact va_S.rf
  clear hH
  replace hP : va_P D vwCl [(a_t, .inr (3, [w_t_tape, .int i_t_size, .int i_t_place, .int i_t_fault, w_t_read]))] H := hP
  replace hD : va_D A [(a_t, .inr (3, [w_t_tape, .int i_t_size, .int i_t_place, .int i_t_fault, w_t_read]))] := hD
  have hl := lv_entry ([.ref a_t]) (n := 1) (Nat.le_of_ble_eq_true rfl)
  rw [lg_entry_eq]
  generalize (lg_sl ([.ref a_t]) ++ List.replicate (1 - (lg_sl ([.ref a_t])).length) Slot.unset).toArray = ls at hl ⊢
  replace hl : lv_has ls 1 [(0, .ref a_t)] := hl
  unfold WX2_needsEnd_X4 at hw
  refine lv_aload_n hx hb dX2_needsEnd_0 rfl (lv_at hl 0 rfl) ?_
  refine va_get (D := D) (ci := 3) (v := .int i_t_place) (C := RX4) (T := TX4) (N := 5) hx hb hts inX2_needsEnd_X4 hown hK hP 0 rfl rfl 2 (by decide) (hts _ (List.mem_of_getElem? (i := 1) rfl)) (fun _ h9 => h9) rfl dX2_needsEnd_1 ?_
  refine lv_aload_n hx hb dX2_needsEnd_4 rfl (lv_at hl 0 rfl) ?_
  refine va_get (D := D) (ci := 3) (v := .int i_t_size) (C := RX4) (T := TX4) (N := 5) hx hb hts inX2_needsEnd_X4 hown hK hP 0 rfl rfl 1 (by decide) (hts _ (List.mem_of_getElem? (i := 2) rfl)) (fun _ h9 => h9) rfl dX2_needsEnd_5 ?_
  refine lv_icmp_ge (tgt := 15) hx hb dX2_needsEnd_8 (by decide) (fun c1 => ?_) (fun c1 => ?_)
  · replace hw := hw.1 c1
    exact W.vret hx hb hr (fun t ht hW => ⟨⟨i_t_fault, rfl, hw, post_mk ht hP hD⟩, hS.F ht⟩) hS.2.2 dX2_needsEnd_15 hlocks
  · replace hw := hw.2 c1
    refine lv_aload_n hx hb dX2_needsEnd_11 rfl (lv_at hl 0 rfl) ?_
    obtain ⟨QK, eQ, hq⟩ := genq (P := WX2_fail_X4 i_t_place i_t_fault) hw
    clear hw
    have hPc := hP.sub (ws' := [(a_t, .inr (3, [w_t_tape, .int i_t_size, .int i_t_place, .int i_t_fault, w_t_read]))]) [0] rfl
    have hDc := hD.sub (ws' := [(a_t, .inr (3, [w_t_tape, .int i_t_size, .int i_t_place, .int i_t_fault, w_t_read]))]) [0] (by decide) rfl
    have hFc := va_free (wc := [(a_t, .inr (3, [w_t_tape, .int i_t_size, .int i_t_place, .int i_t_fault, w_t_read]))]) hD hS hA [0] rfl
    refine va_callv (va_runU (As := []) (rest := []) ⟨hx, hb, hml, hown, hts⟩ (MX2_fail_X4 l D cyI cyZ cyC ro ce cin ad a_t  (w_t_tape) (.int i_t_size) (w_t_read) H.size i_t_place i_t_fault QK  hq) (va_cwU 0 hts gX2_needsEnd_X2_fail_u52X4 rfl rfl rfl rfl dmX2_failu ⟨Nat.le_of_ble_eq_true rfl, Nat.le_of_ble_eq_true rfl⟩) ⟨pre_bl, va_recv hK hPc (ci := 3) (q0 := 0) rfl rfl, fun U hU hW => ⟨rfl, pre_of hX hS hK hPc hDc hFc hU hW⟩⟩ rfl rfl hl.1 rfl (lv_room (Nat.le_of_ble_eq_true rfl)) dX2_needsEnd_12 ⟨Nat.zero_le _, Nat.zero_le _⟩) hS (fun q _ h => hFc q h) hFc (fun u t H1 locs ht hvm hw hB hz1 hk1 hS => ?_)
    obtain ⟨i_t_fault_2, rfl⟩ : ∃ z, z = u := ⟨u, rfl⟩
    replace hw : QK i_t_fault_2 := hw
    clear hq
    subst eQ
    obtain ⟨hP1, hD1⟩ := hB
    rw [ht] at hP1
    obtain ⟨hP, hD⟩ := va_join (wr := []) (w1 := [(a_t, .inr (3, [w_t_tape, .int i_t_size, .int i_t_place, .int i_t_fault_2, w_t_read]))]) hP hD [0] [] rfl rfl (by decide) (by decide) hk1 hFc hP1 hD1
    clear hPc hDc hFc hk1 hz1 hP1 hD1 ht hvm
    generalize H1 = H at hP hS ⊢
    replace hP : va_P D vwCl [(a_t, .inr (3, [w_t_tape, .int i_t_size, .int i_t_place, .int i_t_fault_2, w_t_read]))] H := hP
    replace hD : va_D A [(a_t, .inr (3, [w_t_tape, .int i_t_size, .int i_t_place, .int i_t_fault_2, w_t_read]))] := hD
    exact W.vret hx hb hr (fun t ht hW => ⟨⟨i_t_fault_2, rfl, hw, post_mk ht hP hD⟩, hS.F ht⟩) hS.2.2 dX2_needsEnd_15 hlocks
set_option maxHeartbeats 8000000 in
set_option maxRecDepth 100000 in
theorem MX2_faultPlace_X4 (l : Launch) (D : va_G) (cyI cyZ cyC : ClassId) (ro : va_W) (ce : Nat → CT) (cin : Nat → Prop) (ad : AD) (a_t : Nat) (w_t_tape w_t_size w_t_place w_t_read : Value) (sz : Nat) (i_t_fault : Int32) (Q : Int32 → Prop)  (hw : WX2_faultPlace_X4 i_t_fault Q) : Met l yX2_faultPlace wsX2_faultPlace ({ frames := 0, cells := 0, slots := 0, locals := 0 }) (va_Pc [.ref a_t] (PRE D cyI cyZ cyC ro ce cin ad (SX2_faultPlace_X4 cyI cyZ cyC a_t w_t_tape w_t_size w_t_place w_t_read  i_t_fault) sz)) (va_Qi (fun (r : Int32) (_ : Unit) => Q r) (fun (_ : Unit) (t : State) => POST D (va_A (SX2_faultPlace_X4 cyI cyZ cyC a_t w_t_tape w_t_size w_t_place w_t_read  i_t_fault) sz) (SX2_faultPlace_X4 cyI cyZ cyC a_t w_t_tape w_t_size w_t_place w_t_read  i_t_fault) t) (va_A (SX2_faultPlace_X4 cyI cyZ cyC a_t w_t_tape w_t_size w_t_place w_t_read  i_t_fault) sz)) 0 0 (va_A (SX2_faultPlace_X4 cyI cyZ cyC a_t w_t_tape w_t_size w_t_place w_t_read  i_t_fault) sz) := by
  refine Met.ofW (cc := cX2_faultPlace) (maxL := 1) (ret := (some .int)) (by decide +kernel) rfl ?_
  intro p e s m args below meth c s₁ B hml hv
  obtain ⟨rfl, hsz, hP, hK, hD0, hX⟩ := hv
  have hx := B.exec
  have hb := B.bytes
  have hr := B.returns
  have hts := atoms_spec (ws := wsX2_faultPlace) B.pre
  have hown : s.vm.findClass RX2 = some m.cls := findClass_of_methodNamed B.named
  have hlocks := B.notSynchronized
  clear B
  subst hsz
  have hD := hD0.self (sz := s.heap.size)
  clear hD0
  generalize hAe : va_A (SX2_faultPlace_X4 cyI cyZ cyC a_t w_t_tape w_t_size w_t_place w_t_read  i_t_fault) s.heap.size = A at hD hX ⊢
  have hA : ∀ q : Nat, s.heap.size ≤ q → A q := fun q h => by rw [← hAe]; exact Or.inr h
  clear hAe
  obtain ⟨H, hH⟩ : ∃ H, H = s.heap := ⟨_, rfl⟩
  rw [← hH] at hP ⊢
  have hS : va_S A s.heap H [] := by rw [hH]; exact va_S.rf
  clear hH
  replace hP : va_P D vwCl [(a_t, .inr (3, [w_t_tape, w_t_size, w_t_place, .int i_t_fault, w_t_read]))] H := hP
  replace hD : va_D A [(a_t, .inr (3, [w_t_tape, w_t_size, w_t_place, .int i_t_fault, w_t_read]))] := hD
  have hl := lv_entry ([.ref a_t]) (n := 1) (Nat.le_of_ble_eq_true rfl)
  rw [lg_entry_eq]
  generalize (lg_sl ([.ref a_t]) ++ List.replicate (1 - (lg_sl ([.ref a_t])).length) Slot.unset).toArray = ls at hl ⊢
  replace hl : lv_has ls 1 [(0, .ref a_t)] := hl
  unfold WX2_faultPlace_X4 at hw
  refine lv_aload_n hx hb dX2_faultPlace_0 rfl (lv_at hl 0 rfl) ?_
  refine va_get (D := D) (ci := 3) (v := .int i_t_fault) (C := RX4) (T := TX4) (N := 5) hx hb hts inX2_faultPlace_X4 hown hK hP 0 rfl rfl 3 (by decide) (hts _ (List.mem_of_getElem? (i := 1) rfl)) (fun _ h9 => h9) rfl dX2_faultPlace_1 ?_
  exact W.iret (v := i_t_fault) hx hb hr (fun t ht hW => ⟨⟨i_t_fault, (), rfl, hw, post_mk ht hP hD⟩, hS.F ht⟩) hS.2.2 dX2_faultPlace_4 hlocks
set_option maxHeartbeats 8000000 in
set_option maxRecDepth 100000 in
theorem MX2_next_X4 (l : Launch) (D : va_G) (cyI cyZ cyC : ClassId) (ro : va_W) (ce : Nat → CT) (cin : Nat → Prop) (ad : AD) (a_t a_t_tape : Nat) (w_t_read : Value) (sz : Nat) (i_t_size : Int32) (i_t_place : Int32) (i_t_fault : Int32) (f_t_tape : Nat → Int32) (Q : Int32 → Prop)  (hw : WX2_next_X4 i_t_size i_t_place i_t_fault f_t_tape Q) : Met l yX2_next wsX2_next ({ frames := 0, cells := 0, slots := 0, locals := 0 }) (va_Pc [.ref a_t] (PRE D cyI cyZ cyC ro ce cin ad (SX2_next_X4 cyI cyZ cyC a_t a_t_tape w_t_read  i_t_size i_t_place i_t_fault f_t_tape) sz)) (va_Qi (fun (r : Int32) (_ : Unit) => Q r) (fun (_ : Unit) (t : State) => POST D (va_A (SX2_next_X4 cyI cyZ cyC a_t a_t_tape w_t_read  i_t_size i_t_place i_t_fault f_t_tape) sz) (SX2_next_X4 cyI cyZ cyC a_t a_t_tape w_t_read  i_t_size i_t_place i_t_fault f_t_tape) t) (va_A (SX2_next_X4 cyI cyZ cyC a_t a_t_tape w_t_read  i_t_size i_t_place i_t_fault f_t_tape) sz)) 0 0 (va_A (SX2_next_X4 cyI cyZ cyC a_t a_t_tape w_t_read  i_t_size i_t_place i_t_fault f_t_tape) sz) := by
  refine Met.ofW (cc := cX2_next) (maxL := 1) (ret := (some .int)) (by decide +kernel) rfl ?_
  intro p e s m args below meth c s₁ B hml hv
  obtain ⟨rfl, hsz, hP, hK, hD0, hX⟩ := hv
  have hx := B.exec
  have hb := B.bytes
  have hr := B.returns
  have hts := atoms_spec (ws := wsX2_next) B.pre
  have hown : s.vm.findClass RX2 = some m.cls := findClass_of_methodNamed B.named
  have hlocks := B.notSynchronized
  clear B
  subst hsz
  have hD := hD0.self (sz := s.heap.size)
  clear hD0
  generalize hAe : va_A (SX2_next_X4 cyI cyZ cyC a_t a_t_tape w_t_read  i_t_size i_t_place i_t_fault f_t_tape) s.heap.size = A at hD hX ⊢
  have hA : ∀ q : Nat, s.heap.size ≤ q → A q := fun q h => by rw [← hAe]; exact Or.inr h
  clear hAe
  obtain ⟨H, hH⟩ : ∃ H, H = s.heap := ⟨_, rfl⟩
  rw [← hH] at hP ⊢
  have hS : va_S A s.heap H [] := by rw [hH]; exact va_S.rf
  clear hH
  replace hP : va_P D vwCl [(a_t, .inr (3, [.ref a_t_tape, .int i_t_size, .int i_t_place, .int i_t_fault, w_t_read])), (a_t_tape, .inl (cyI, 120, .inl f_t_tape))] H := hP
  replace hD : va_D A [(a_t, .inr (3, [.ref a_t_tape, .int i_t_size, .int i_t_place, .int i_t_fault, w_t_read])), (a_t_tape, .inl (cyI, 120, .inl f_t_tape))] := hD
  have hl := lv_entry ([.ref a_t]) (n := 1) (Nat.le_of_ble_eq_true rfl)
  rw [lg_entry_eq]
  generalize (lg_sl ([.ref a_t]) ++ List.replicate (1 - (lg_sl ([.ref a_t])).length) Slot.unset).toArray = ls at hl ⊢
  replace hl : lv_has ls 1 [(0, .ref a_t)] := hl
  unfold WX2_next_X4 at hw
  refine lv_aload_n hx hb dX2_next_0 rfl (lv_at hl 0 rfl) ?_
  refine va_get (D := D) (ci := 3) (v := .int i_t_fault) (C := RX4) (T := TX4) (N := 5) hx hb hts inX2_next_X4 hown hK hP 0 rfl rfl 3 (by decide) (hts _ (List.mem_of_getElem? (i := 1) rfl)) (fun _ h9 => h9) rfl dX2_next_1 ?_
  refine lv_if_ge (tgt := 37) hx hb dX2_next_4 (by decide) (fun c1 => ?_) (fun c1 => ?_)
  · replace hw := hw.1 c1
    refine lv_iconst (v := (-1)) hx hb dX2_next_37 (by decide) ?_
    exact W.iret (v := (-1)) hx hb hr (fun t ht hW => ⟨⟨(-1), (), rfl, hw, post_mk ht hP hD⟩, hS.F ht⟩) hS.2.2 dX2_next_38 hlocks
  · replace hw := hw.2 c1
    refine lv_aload_n hx hb dX2_next_7 rfl (lv_at hl 0 rfl) ?_
    refine va_get (D := D) (ci := 3) (v := .int i_t_place) (C := RX4) (T := TX4) (N := 5) hx hb hts inX2_next_X4 hown hK hP 0 rfl rfl 2 (by decide) (hts _ (List.mem_of_getElem? (i := 2) rfl)) (fun _ h9 => h9) rfl dX2_next_8 ?_
    refine lv_if_lt (tgt := 37) hx hb dX2_next_11 (by decide) (fun c2 => ?_) (fun c2 => ?_)
    · replace hw := hw.1 c2
      refine lv_iconst (v := (-1)) hx hb dX2_next_37 (by decide) ?_
      exact W.iret (v := (-1)) hx hb hr (fun t ht hW => ⟨⟨(-1), (), rfl, hw, post_mk ht hP hD⟩, hS.F ht⟩) hS.2.2 dX2_next_38 hlocks
    · replace hw := hw.2 c2
      refine lv_aload_n hx hb dX2_next_14 rfl (lv_at hl 0 rfl) ?_
      refine va_get (D := D) (ci := 3) (v := .int i_t_place) (C := RX4) (T := TX4) (N := 5) hx hb hts inX2_next_X4 hown hK hP 0 rfl rfl 2 (by decide) (hts _ (List.mem_of_getElem? (i := 2) rfl)) (fun _ h9 => h9) rfl dX2_next_15 ?_
      refine lv_aload_n hx hb dX2_next_18 rfl (lv_at hl 0 rfl) ?_
      refine va_get (D := D) (ci := 3) (v := .int i_t_size) (C := RX4) (T := TX4) (N := 5) hx hb hts inX2_next_X4 hown hK hP 0 rfl rfl 1 (by decide) (hts _ (List.mem_of_getElem? (i := 3) rfl)) (fun _ h9 => h9) rfl dX2_next_19 ?_
      refine lv_icmp_ge (tgt := 37) hx hb dX2_next_22 (by decide) (fun c3 => ?_) (fun c3 => ?_)
      · replace hw := hw.1 c3
        refine lv_iconst (v := (-1)) hx hb dX2_next_37 (by decide) ?_
        exact W.iret (v := (-1)) hx hb hr (fun t ht hW => ⟨⟨(-1), (), rfl, hw, post_mk ht hP hD⟩, hS.F ht⟩) hS.2.2 dX2_next_38 hlocks
      · replace hw := hw.2 c3
        refine lv_aload_n hx hb dX2_next_25 rfl (lv_at hl 0 rfl) ?_
        refine va_get (D := D) (ci := 3) (v := .int i_t_place) (C := RX4) (T := TX4) (N := 5) hx hb hts inX2_next_X4 hown hK hP 0 rfl rfl 2 (by decide) (hts _ (List.mem_of_getElem? (i := 2) rfl)) (fun _ h9 => h9) rfl dX2_next_26 ?_
        refine lv_aload_n hx hb dX2_next_29 rfl (lv_at hl 0 rfl) ?_
        refine va_get (D := D) (ci := 3) (v := .ref a_t_tape) (C := RX4) (T := TX4) (N := 5) hx hb hts inX2_next_X4 hown hK hP 0 rfl rfl 0 (by decide) (hts _ (List.mem_of_getElem? (i := 4) rfl)) (fun _ h9 => h9) rfl dX2_next_30 ?_
        refine va_alen (v := 120) hx hb hK hP 1 0 rfl rfl rfl dX2_next_33 ?_
        refine lv_icmp_lt (tgt := 39) hx hb dX2_next_34 (by decide) (fun c4 => ?_) (fun c4 => ?_)
        · replace hw := hw.1 c4
          refine lv_aload_n hx hb dX2_next_39 rfl (lv_at hl 0 rfl) ?_
          refine va_get (D := D) (ci := 3) (v := .ref a_t_tape) (C := RX4) (T := TX4) (N := 5) hx hb hts inX2_next_X4 hown hK hP 0 rfl rfl 0 (by decide) (hts _ (List.mem_of_getElem? (i := 4) rfl)) (fun _ h9 => h9) rfl dX2_next_40 ?_
          refine lv_aload_n hx hb dX2_next_43 rfl (lv_at hl 0 rfl) ?_
          refine va_get (D := D) (ci := 3) (v := .int i_t_place) (C := RX4) (T := TX4) (N := 5) hx hb hts inX2_next_X4 hown hK hP 0 rfl rfl 2 (by decide) (hts _ (List.mem_of_getElem? (i := 2) rfl)) (fun _ h9 => h9) rfl dX2_next_44 ?_
          have h5 := hw.1
          replace hw := hw.2
          refine va_iald hx hb hK hP 1 0 rfl rfl h5 dX2_next_47 ?_
          exact W.iret (v := f_t_tape i_t_place.toNatClampNeg) hx hb hr (fun t ht hW => ⟨⟨f_t_tape i_t_place.toNatClampNeg, (), rfl, hw, post_mk ht hP hD⟩, hS.F ht⟩) hS.2.2 dX2_next_48 hlocks
        · replace hw := hw.2 c4
          refine lv_iconst (v := (-1)) hx hb dX2_next_37 (by decide) ?_
          exact W.iret (v := (-1)) hx hb hr (fun t ht hW => ⟨⟨(-1), (), rfl, hw, post_mk ht hP hD⟩, hS.F ht⟩) hS.2.2 dX2_next_38 hlocks
set_option maxHeartbeats 8000000 in
set_option maxRecDepth 100000 in
theorem MX2_takes_X4 (l : Launch) (D : va_G) (cyI cyZ cyC : ClassId) (ro : va_W) (ce : Nat → CT) (cin : Nat → Prop) (ad : AD) (a_t a_t_tape : Nat) (w_t_read : Value) (sz : Nat) (x1 : Int32) (i_t_size : Int32) (i_t_place : Int32) (i_t_fault : Int32) (f_t_tape : Nat → Int32) (Q : Int32 → Int32 → Prop)  (hw : WX2_takes_X4 x1 i_t_size i_t_place i_t_fault f_t_tape Q) : Met l yX2_takes wsX2_takes ({ frames := 1, cells := 0, slots := 0, locals := 20 }) (va_Pc [.ref a_t, .int x1] (PRE D cyI cyZ cyC ro ce cin ad (SX2_takes_X4 cyI cyZ cyC a_t a_t_tape w_t_read  i_t_size i_t_place i_t_fault f_t_tape) sz)) (va_Qi (fun (r : Int32) (u : Int32) => Q r u) (fun (u : Int32) (t : State) => POST D (va_A (SX2_takes_X4 cyI cyZ cyC a_t a_t_tape w_t_read  i_t_size i_t_place i_t_fault f_t_tape) sz) (SX2_takes_X4 cyI cyZ cyC a_t a_t_tape w_t_read  i_t_size u i_t_fault f_t_tape) t) (va_A (SX2_takes_X4 cyI cyZ cyC a_t a_t_tape w_t_read  i_t_size i_t_place i_t_fault f_t_tape) sz)) 0 0 (va_A (SX2_takes_X4 cyI cyZ cyC a_t a_t_tape w_t_read  i_t_size i_t_place i_t_fault f_t_tape) sz) := by
  refine Met.ofW (cc := cX2_takes) (maxL := 2) (ret := (some .boolean)) (by decide +kernel) rfl ?_
  intro p e s m args below meth c s₁ B hml hv
  obtain ⟨rfl, hsz, hP, hK, hD0, hX⟩ := hv
  have hx := B.exec
  have hb := B.bytes
  have hr := B.returns
  have hts := atoms_spec (ws := wsX2_takes) B.pre
  have hown : s.vm.findClass RX2 = some m.cls := findClass_of_methodNamed B.named
  have hlocks := B.notSynchronized
  clear B
  subst hsz
  have hD := hD0.self (sz := s.heap.size)
  clear hD0
  generalize hAe : va_A (SX2_takes_X4 cyI cyZ cyC a_t a_t_tape w_t_read  i_t_size i_t_place i_t_fault f_t_tape) s.heap.size = A at hD hX ⊢
  have hA : ∀ q : Nat, s.heap.size ≤ q → A q := fun q h => by rw [← hAe]; exact Or.inr h
  clear hAe
  obtain ⟨H, hH⟩ : ∃ H, H = s.heap := ⟨_, rfl⟩
  rw [← hH] at hP ⊢
  have hS : va_S A s.heap H [] := by rw [hH]; exact va_S.rf
  clear hH
  replace hP : va_P D vwCl [(a_t, .inr (3, [.ref a_t_tape, .int i_t_size, .int i_t_place, .int i_t_fault, w_t_read])), (a_t_tape, .inl (cyI, 120, .inl f_t_tape))] H := hP
  replace hD : va_D A [(a_t, .inr (3, [.ref a_t_tape, .int i_t_size, .int i_t_place, .int i_t_fault, w_t_read])), (a_t_tape, .inl (cyI, 120, .inl f_t_tape))] := hD
  have hl := lv_entry ([.ref a_t, .int x1]) (n := 2) (Nat.le_of_ble_eq_true rfl)
  rw [lg_entry_eq]
  generalize (lg_sl ([.ref a_t, .int x1]) ++ List.replicate (2 - (lg_sl ([.ref a_t, .int x1])).length) Slot.unset).toArray = ls at hl ⊢
  replace hl : lv_has ls 2 [(0, .ref a_t), (1, .int x1)] := hl
  unfold WX2_takes_X4 at hw
  refine lv_aload_n hx hb dX2_takes_0 rfl (lv_at hl 0 rfl) ?_
  obtain ⟨QK, eQ, hq⟩ := genq (P := WX2_next_X4 i_t_size i_t_place i_t_fault f_t_tape) hw
  clear hw
  have hPc := hP.sub (ws' := [(a_t, .inr (3, [.ref a_t_tape, .int i_t_size, .int i_t_place, .int i_t_fault, w_t_read])), (a_t_tape, .inl (cyI, 120, .inl f_t_tape))]) [0, 1] rfl
  have hDc := hD.sub (ws' := [(a_t, .inr (3, [.ref a_t_tape, .int i_t_size, .int i_t_place, .int i_t_fault, w_t_read])), (a_t_tape, .inl (cyI, 120, .inl f_t_tape))]) [0, 1] (by decide) rfl
  have hFc := va_free (wc := [(a_t, .inr (3, [.ref a_t_tape, .int i_t_size, .int i_t_place, .int i_t_fault, w_t_read])), (a_t_tape, .inl (cyI, 120, .inl f_t_tape))]) hD hS hA [0, 1] rfl
  refine va_calli (va_runU (As := []) (rest := []) ⟨hx, hb, hml, hown, hts⟩ (MX2_next_X4 l D cyI cyZ cyC ro ce cin ad a_t a_t_tape  (w_t_read) H.size i_t_size i_t_place i_t_fault f_t_tape QK  hq) (va_cwU 0 hts gX2_takes_X2_next_u44X4 rfl rfl rfl rfl dmX2_nextu ⟨Nat.le_of_ble_eq_true rfl, Nat.le_of_ble_eq_true rfl⟩) ⟨pre_bl, va_recv hK hPc (ci := 3) (q0 := 0) rfl rfl, fun U hU hW => ⟨rfl, pre_of hX hS hK hPc hDc hFc hU hW⟩⟩ rfl rfl hl.1 rfl (lv_room (Nat.le_of_ble_eq_true rfl)) dX2_takes_1 ⟨Nat.zero_le _, Nat.zero_le _⟩) hS (fun q _ h => hFc q h) hFc (fun r1 u t H1 locs ht hvm hw hB hz1 hk1 hS => ?_)
  replace hw : QK r1 := hw
  clear hq
  subst eQ
  obtain ⟨hP1, hD1⟩ := hB
  rw [ht] at hP1
  obtain ⟨hP, hD⟩ := va_join (wr := []) (w1 := [(a_t, .inr (3, [.ref a_t_tape, .int i_t_size, .int i_t_place, .int i_t_fault, w_t_read])), (a_t_tape, .inl (cyI, 120, .inl f_t_tape))]) hP hD [0, 1] [] rfl rfl (by decide) (by decide) hk1 hFc hP1 hD1
  clear hPc hDc hFc hk1 hz1 hP1 hD1 ht hvm
  generalize H1 = H at hP hS ⊢
  replace hP : va_P D vwCl [(a_t, .inr (3, [.ref a_t_tape, .int i_t_size, .int i_t_place, .int i_t_fault, w_t_read])), (a_t_tape, .inl (cyI, 120, .inl f_t_tape))] H := hP
  replace hD : va_D A [(a_t, .inr (3, [.ref a_t_tape, .int i_t_size, .int i_t_place, .int i_t_fault, w_t_read])), (a_t_tape, .inl (cyI, 120, .inl f_t_tape))] := hD
  refine lv_iload_n hx hb dX2_takes_4 rfl (lv_at hl 1 rfl) ?_
  refine lv_icmp_eq (tgt := 10) hx hb dX2_takes_5 (by decide) (fun c2 => ?_) (fun c2 => ?_)
  · replace hw := hw.1 c2
    refine lv_aload_n hx hb dX2_takes_10 rfl (lv_at hl 0 rfl) ?_
    refine lv_dup hx hb dX2_takes_11 rfl ?_
    refine va_get (D := D) (ci := 3) (v := .int i_t_place) (C := RX4) (T := TX4) (N := 5) hx hb hts inX2_takes_X4 hown hK hP 0 rfl rfl 2 (by decide) (hts _ (List.mem_of_getElem? (i := 1) rfl)) (fun _ h9 => h9) rfl dX2_takes_12 ?_
    refine lv_iconst (v := 1) hx hb dX2_takes_15 (by decide) ?_
    refine lv_iadd hx hb dX2_takes_16 ?_
    refine lv_topi (fun y3 ey3 => ?_)
    replace hw := hw y3 ey3
    refine va_put (D := D) (ci := 3) (v := .int y3) (ty := .int) (C := RX4) (T := TX4) (N := 5) hx hb hts inX2_takes_X4 tyX4 tyX4_ok nmX4 hown hK hP hD hS 0 rfl rfl 2 (by decide) (hts _ (List.mem_of_getElem? (i := 1) rfl)) (fun _ h9 => h9) rfl (tyX4_ok 2 (by decide)) rfl rfl (Nat.le_of_ble_eq_true rfl) dX2_takes_17 (fun H locs hP hD hS => ?_)
    replace hP : va_P D vwCl [(a_t, .inr (3, [.ref a_t_tape, .int i_t_size, .int y3, .int i_t_fault, w_t_read])), (a_t_tape, .inl (cyI, 120, .inl f_t_tape))] H := hP
    replace hD : va_D A [(a_t, .inr (3, [.ref a_t_tape, .int i_t_size, .int y3, .int i_t_fault, w_t_read])), (a_t_tape, .inl (cyI, 120, .inl f_t_tape))] := hD
    refine lv_iconst (v := 1) hx hb dX2_takes_20 (by decide) ?_
    exact W.zret (v := 1) hx hb hr rfl (fun t ht hW => ⟨⟨1, y3, rfl, hw, post_mk ht hP hD⟩, hS.F ht⟩) hS.2.2 dX2_takes_21 hlocks
  · replace hw := hw.2 c2
    refine lv_iconst (v := 0) hx hb dX2_takes_8 (by decide) ?_
    exact W.zret (v := 0) hx hb hr rfl (fun t ht hW => ⟨⟨0, i_t_place, rfl, hw, post_mk ht hP hD⟩, hS.F ht⟩) hS.2.2 dX2_takes_9 hlocks
set_option maxHeartbeats 8000000 in
set_option maxRecDepth 100000 in
theorem MX2_needsAll_X4 (l : Launch) (D : va_G) (cyI cyZ cyC : ClassId) (ro : va_W) (ce : Nat → CT) (cin : Nat → Prop) (ad : AD) (a_t a_t_tape : Nat) (w_t_read : Value) (sz : Nat) (z1 : Nat) (i_t_size : Int32) (i_t_place : Int32) (i_t_fault : Int32) (f_t_tape : Nat → Int32) (Q : Int32 → Int32 → Prop)  (hz : z1 < 9) (hw : WX2_needsAll_X4 z1 i_t_size i_t_place i_t_fault f_t_tape Q) : Met l yX2_needsAll wsX2_needsAll ({ frames := 5, cells := 0, slots := 0, locals := 106 }) (va_Pc [.ref a_t, .ref (ad.1 z1)] (PRE D cyI cyZ cyC ro ce cin ad (SX2_needsAll_X4 cyI cyZ cyC a_t a_t_tape w_t_read  i_t_size i_t_place i_t_fault f_t_tape) sz)) (va_Qv (fun (u : Int32 × Int32) => Q u.1 u.2) (fun (u : Int32 × Int32) (t : State) => POST D (va_A (SX2_needsAll_X4 cyI cyZ cyC a_t a_t_tape w_t_read  i_t_size i_t_place i_t_fault f_t_tape) sz) (SX2_needsAll_X4 cyI cyZ cyC a_t a_t_tape w_t_read  i_t_size u.1 u.2 f_t_tape) t) (va_A (SX2_needsAll_X4 cyI cyZ cyC a_t a_t_tape w_t_read  i_t_size i_t_place i_t_fault f_t_tape) sz)) 0 0 (va_A (SX2_needsAll_X4 cyI cyZ cyC a_t a_t_tape w_t_read  i_t_size i_t_place i_t_fault f_t_tape) sz) := by
  refine Met.ofW (cc := cX2_needsAll) (maxL := 3) (ret := none) (by decide +kernel) rfl ?_
  intro p e s m args below meth c s₁ B hml hv
  obtain ⟨rfl, hsz, hP, hK, hD0, hX⟩ := hv
  have hx := B.exec
  have hb := B.bytes
  have hr := B.returns
  have hts := atoms_spec (ws := wsX2_needsAll) B.pre
  have hown : s.vm.findClass RX2 = some m.cls := findClass_of_methodNamed B.named
  have hlocks := B.notSynchronized
  clear B
  subst hsz
  have hD := hD0.self (sz := s.heap.size)
  clear hD0
  generalize hAe : va_A (SX2_needsAll_X4 cyI cyZ cyC a_t a_t_tape w_t_read  i_t_size i_t_place i_t_fault f_t_tape) s.heap.size = A at hD hX ⊢
  have hA : ∀ q : Nat, s.heap.size ≤ q → A q := fun q h => by rw [← hAe]; exact Or.inr h
  clear hAe
  obtain ⟨H, hH⟩ : ∃ H, H = s.heap := ⟨_, rfl⟩
  rw [← hH] at hP ⊢
  have hS : va_S A s.heap H [] := by rw [hH]; exact va_S.rf
  clear hH
  replace hP : va_P D vwCl [(a_t, .inr (3, [.ref a_t_tape, .int i_t_size, .int i_t_place, .int i_t_fault, w_t_read])), (a_t_tape, .inl (cyI, 120, .inl f_t_tape))] H := hP
  replace hD : va_D A [(a_t, .inr (3, [.ref a_t_tape, .int i_t_size, .int i_t_place, .int i_t_fault, w_t_read])), (a_t_tape, .inl (cyI, 120, .inl f_t_tape))] := hD
  have hl := lv_entry ([.ref a_t, .ref (ad.1 z1)]) (n := 3) (Nat.le_of_ble_eq_true rfl)
  rw [lg_entry_eq]
  generalize (lg_sl ([.ref a_t, .ref (ad.1 z1)]) ++ List.replicate (3 - (lg_sl ([.ref a_t, .ref (ad.1 z1)])).length) Slot.unset).toArray = ls at hl ⊢
  replace hl : lv_has ls 3 [(0, .ref a_t), (1, .ref (ad.1 z1))] := hl
  have B2 : ∀ (n2 : Nat), ∀ (x2 : Int32) (i_t_place : Int32) (i_t_fault : Int32), WX2_needsAll_X4_2 z1 i_t_size f_t_tape Q  n2 x2 i_t_place i_t_fault → ∀ (H : Heap) (locs : List Loc), va_P D vwCl [(a_t, .inr (3, [.ref a_t_tape, .int i_t_size, .int i_t_place, .int i_t_fault, w_t_read])), (a_t_tape, .inl (cyI, 120, .inl f_t_tape))] H → va_D A [(a_t, .inr (3, [.ref a_t_tape, .int i_t_size, .int i_t_place, .int i_t_fault, w_t_read])), (a_t_tape, .inl (cyI, 120, .inl f_t_tape))] → va_S A s.heap H locs → ∀ (ls : Array Slot), lv_has ls 3 [(0, .ref a_t), (1, .ref (ad.1 z1)), (2, .int x2)] → W p l e { frames := 5, cells := 0, slots := 0, locals := 106 } s m ([.ref a_t, .ref (ad.1 z1)] : List Value).toArray below meth c H locs 0 0 (MQ below (va_Qv (fun (u : Int32 × Int32) => Q u.1 u.2) (fun (u : Int32 × Int32) (t : State) => POST D A (SX2_needsAll_X4 cyI cyZ cyC a_t a_t_tape w_t_read  i_t_size u.1 u.2 f_t_tape) t) A) ([.ref a_t, .ref (ad.1 z1)] : List Value).toArray s 0 0 A) (F0 m 2 ls []) := by
    intro n2
    induction n2 with
    | zero => intro x2 i_t_place i_t_fault hw; exact (show False from hw).elim
    | succ n2 ih2 =>
      have B26 : ∀ (x2 : Int32) (i_t_place : Int32) (i_t_fault : Int32), WX2_needsAll_X4_26 z1 i_t_size f_t_tape x2 i_t_place i_t_fault Q (WX2_needsAll_X4_2 z1 i_t_size f_t_tape Q  n2) → ∀ (H : Heap) (locs : List Loc), va_P D vwCl [(a_t, .inr (3, [.ref a_t_tape, .int i_t_size, .int i_t_place, .int i_t_fault, w_t_read])), (a_t_tape, .inl (cyI, 120, .inl f_t_tape))] H → va_D A [(a_t, .inr (3, [.ref a_t_tape, .int i_t_size, .int i_t_place, .int i_t_fault, w_t_read])), (a_t_tape, .inl (cyI, 120, .inl f_t_tape))] → va_S A s.heap H locs → ∀ (ls : Array Slot), lv_has ls 3 [(0, .ref a_t), (1, .ref (ad.1 z1)), (2, .int x2)] → W p l e { frames := 5, cells := 0, slots := 0, locals := 106 } s m ([.ref a_t, .ref (ad.1 z1)] : List Value).toArray below meth c H locs 0 0 (MQ below (va_Qv (fun (u : Int32 × Int32) => Q u.1 u.2) (fun (u : Int32 × Int32) (t : State) => POST D A (SX2_needsAll_X4 cyI cyZ cyC a_t a_t_tape w_t_read  i_t_size u.1 u.2 f_t_tape) t) A) ([.ref a_t, .ref (ad.1 z1)] : List Value).toArray s 0 0 A) (F0 m 26 ls []) := by
        intro x2 i_t_place i_t_fault hw H locs hP hD hS ls hl
        unfold WX2_needsAll_X4_26 at hw
        obtain ⟨y7, ey7⟩ : ∃ y : Int32, y = x2 + 1 := ⟨_, rfl⟩
        replace hw := hw y7 ey7
        refine lv_iinc (v := y7) (lv' := [(2, .int y7), (0, .ref a_t), (1, .ref (ad.1 z1))]) hx hb dX2_needsAll_26 hl (k := 2) rfl (by rw [ey7]; rfl) (by decide) rfl (fun ls hl => ?_)
        refine lv_goto (tgt := 2) hx hb dX2_needsAll_29 (by decide) ?_
        exact ih2 y7 i_t_place i_t_fault hw _ _ hP hD hS _ (lv_sub hl [1, 2, 0] rfl)
      intro x2 i_t_place i_t_fault hw H locs hP hD hS ls hl
      unfold WX2_needsAll_X4_2 at hw
      refine lv_iload_n hx hb dX2_needsAll_2 rfl (lv_at hl 2 rfl) ?_
      refine lv_aload_n hx hb dX2_needsAll_3 rfl (lv_at hl 1 rfl) ?_
      obtain ⟨QK, eQ, hq⟩ := genq (P := WX0_length_8abf5 z1) hw
      clear hw
      have hPc := hP.sub (ws' := []) [] rfl
      have hDc := hD.sub (ws' := []) [] (by decide) rfl
      have hFc := va_free (wc := []) hD hS hA [] rfl
      refine va_calli (va_runV (As := []) (rest := [.int x2]) ⟨hx, hb, hml, hown, hts⟩ (MX0_length_8abf5 l D cyI cyZ cyC ro ce cin ad    H.size z1 QK hz hq) (cwV 0 hts gX2_needsAll_J0_length_8abf5 rfl rfl rfl ⟨rfl, dmJ0_length_8abf5⟩ ⟨Nat.le_of_ble_eq_true rfl, Nat.le_of_ble_eq_true rfl⟩) ⟨pre_bl, vk_recv hX.env.1 hz hS, fun U hU hW => ⟨rfl, pre_of hX hS hK hPc hDc hFc hU hW⟩⟩ rfl rfl hl.1 rfl (lv_room (Nat.le_of_ble_eq_true rfl)) dX2_needsAll_4 ⟨Nat.zero_le _, Nat.zero_le _⟩) hS (fun q _ h => hFc q h) hFc (fun r1 u t H1 locs ht hvm hw hB hz1 hk1 hS => ?_)
      replace hw : QK r1 := hw
      clear hq
      subst eQ
      obtain ⟨hP1, hD1⟩ := hB
      rw [ht] at hP1
      obtain ⟨hP, hD⟩ := va_join (wr := [(a_t, .inr (3, [.ref a_t_tape, .int i_t_size, .int i_t_place, .int i_t_fault, w_t_read])), (a_t_tape, .inl (cyI, 120, .inl f_t_tape))]) (w1 := []) hP hD [] [0, 1] rfl rfl (by decide) (by decide) hk1 hFc hP1 hD1
      clear hPc hDc hFc hk1 hz1 hP1 hD1 ht hvm
      generalize H1 = H at hP hS ⊢
      replace hP : va_P D vwCl [(a_t, .inr (3, [.ref a_t_tape, .int i_t_size, .int i_t_place, .int i_t_fault, w_t_read])), (a_t_tape, .inl (cyI, 120, .inl f_t_tape))] H := hP
      replace hD : va_D A [(a_t, .inr (3, [.ref a_t_tape, .int i_t_size, .int i_t_place, .int i_t_fault, w_t_read])), (a_t_tape, .inl (cyI, 120, .inl f_t_tape))] := hD
      refine lv_icmp_ge (tgt := 32) hx hb dX2_needsAll_7 (by decide) (fun c2 => ?_) (fun c2 => ?_)
      · replace hw := hw.1 c2
        exact W.vret hx hb hr (fun t ht hW => ⟨⟨(i_t_place, i_t_fault), rfl, hw, post_mk ht hP hD⟩, hS.F ht⟩) hS.2.2 dX2_needsAll_32 hlocks
      · replace hw := hw.2 c2
        refine lv_aload_n hx hb dX2_needsAll_10 rfl (lv_at hl 0 rfl) ?_
        refine lv_aload_n hx hb dX2_needsAll_11 rfl (lv_at hl 1 rfl) ?_
        refine lv_iload_n hx hb dX2_needsAll_12 rfl (lv_at hl 2 rfl) ?_
        obtain ⟨QK, eQ, hq⟩ := genq (P := WX0_charAt_5068e z1 x2) hw
        clear hw
        have hPc := hP.sub (ws' := []) [] rfl
        have hDc := hD.sub (ws' := []) [] (by decide) rfl
        have hFc := va_free (wc := []) hD hS hA [] rfl
        refine va_calli (va_runV (As := [.int x2]) (rest := [.ref a_t]) ⟨hx, hb, hml, hown, hts⟩ (MX0_charAt_5068e l D cyI cyZ cyC ro ce cin ad    H.size z1 x2 QK hz hq) (cwV 1 hts gX2_needsAll_J0_charAt_5068e rfl rfl rfl ⟨rfl, dmJ0_charAt_5068e⟩ ⟨Nat.le_of_ble_eq_true rfl, Nat.le_of_ble_eq_true rfl⟩) ⟨pre_bl, vk_recv hX.env.1 hz hS, fun U hU hW => ⟨rfl, pre_of hX hS hK hPc hDc hFc hU hW⟩⟩ rfl rfl hl.1 rfl (lv_room (Nat.le_of_ble_eq_true rfl)) dX2_needsAll_13 ⟨Nat.zero_le _, Nat.zero_le _⟩) hS (fun q _ h => hFc q h) hFc (fun r3 u t H1 locs ht hvm hw hB hz1 hk1 hS => ?_)
        replace hw : QK r3 := hw
        clear hq
        subst eQ
        obtain ⟨hP1, hD1⟩ := hB
        rw [ht] at hP1
        obtain ⟨hP, hD⟩ := va_join (wr := [(a_t, .inr (3, [.ref a_t_tape, .int i_t_size, .int i_t_place, .int i_t_fault, w_t_read])), (a_t_tape, .inl (cyI, 120, .inl f_t_tape))]) (w1 := []) hP hD [] [0, 1] rfl rfl (by decide) (by decide) hk1 hFc hP1 hD1
        clear hPc hDc hFc hk1 hz1 hP1 hD1 ht hvm
        generalize H1 = H at hP hS ⊢
        replace hP : va_P D vwCl [(a_t, .inr (3, [.ref a_t_tape, .int i_t_size, .int i_t_place, .int i_t_fault, w_t_read])), (a_t_tape, .inl (cyI, 120, .inl f_t_tape))] H := hP
        replace hD : va_D A [(a_t, .inr (3, [.ref a_t_tape, .int i_t_size, .int i_t_place, .int i_t_fault, w_t_read])), (a_t_tape, .inl (cyI, 120, .inl f_t_tape))] := hD
        obtain ⟨QK, eQ, hq⟩ := genq (P := WX2_takes_X4 r3 i_t_size i_t_place i_t_fault f_t_tape) hw
        clear hw
        have hPc := hP.sub (ws' := [(a_t, .inr (3, [.ref a_t_tape, .int i_t_size, .int i_t_place, .int i_t_fault, w_t_read])), (a_t_tape, .inl (cyI, 120, .inl f_t_tape))]) [0, 1] rfl
        have hDc := hD.sub (ws' := [(a_t, .inr (3, [.ref a_t_tape, .int i_t_size, .int i_t_place, .int i_t_fault, w_t_read])), (a_t_tape, .inl (cyI, 120, .inl f_t_tape))]) [0, 1] (by decide) rfl
        have hFc := va_free (wc := [(a_t, .inr (3, [.ref a_t_tape, .int i_t_size, .int i_t_place, .int i_t_fault, w_t_read])), (a_t_tape, .inl (cyI, 120, .inl f_t_tape))]) hD hS hA [0, 1] rfl
        refine va_calli (va_runU (As := [.int r3]) (rest := []) ⟨hx, hb, hml, hown, hts⟩ (MX2_takes_X4 l D cyI cyZ cyC ro ce cin ad a_t a_t_tape  (w_t_read) H.size r3 i_t_size i_t_place i_t_fault f_t_tape QK  hq) (va_cwU 1 hts gX2_needsAll_X2_takes_u48X4 rfl rfl rfl rfl dmX2_takesu ⟨Nat.le_of_ble_eq_true rfl, Nat.le_of_ble_eq_true rfl⟩) ⟨pre_bl, va_recv hK hPc (ci := 3) (q0 := 0) rfl rfl, fun U hU hW => ⟨rfl, pre_of hX hS hK hPc hDc hFc hU hW⟩⟩ rfl rfl hl.1 rfl (lv_room (Nat.le_of_ble_eq_true rfl)) dX2_needsAll_16 ⟨Nat.zero_le _, Nat.zero_le _⟩) hS (fun q _ h => hFc q h) hFc (fun r4 u t H1 locs ht hvm hw hB hz1 hk1 hS => ?_)
        obtain ⟨i_t_place_5, rfl⟩ : ∃ z, z = u := ⟨u, rfl⟩
        replace hw : QK r4 i_t_place_5 := hw
        clear hq
        subst eQ
        obtain ⟨hP1, hD1⟩ := hB
        rw [ht] at hP1
        obtain ⟨hP, hD⟩ := va_join (wr := []) (w1 := [(a_t, .inr (3, [.ref a_t_tape, .int i_t_size, .int i_t_place_5, .int i_t_fault, w_t_read])), (a_t_tape, .inl (cyI, 120, .inl f_t_tape))]) hP hD [0, 1] [] rfl rfl (by decide) (by decide) hk1 hFc hP1 hD1
        clear hPc hDc hFc hk1 hz1 hP1 hD1 ht hvm
        generalize H1 = H at hP hS ⊢
        replace hP : va_P D vwCl [(a_t, .inr (3, [.ref a_t_tape, .int i_t_size, .int i_t_place_5, .int i_t_fault, w_t_read])), (a_t_tape, .inl (cyI, 120, .inl f_t_tape))] H := hP
        replace hD : va_D A [(a_t, .inr (3, [.ref a_t_tape, .int i_t_size, .int i_t_place_5, .int i_t_fault, w_t_read])), (a_t_tape, .inl (cyI, 120, .inl f_t_tape))] := hD
        refine lv_if_ne (tgt := 26) hx hb dX2_needsAll_19 (by decide) (fun c6 => ?_) (fun c6 => ?_)
        · replace hw := hw.2 c6
          exact B26 x2 i_t_place_5 i_t_fault hw _ _ hP hD hS _ (lv_sub hl [0, 1, 2] rfl)
        · replace hw := hw.1 c6
          refine lv_aload_n hx hb dX2_needsAll_22 rfl (lv_at hl 0 rfl) ?_
          obtain ⟨QK, eQ, hq⟩ := genq (P := WX2_fail_X4 i_t_place_5 i_t_fault) hw
          clear hw
          have hPc := hP.sub (ws' := [(a_t, .inr (3, [.ref a_t_tape, .int i_t_size, .int i_t_place_5, .int i_t_fault, w_t_read]))]) [0] rfl
          have hDc := hD.sub (ws' := [(a_t, .inr (3, [.ref a_t_tape, .int i_t_size, .int i_t_place_5, .int i_t_fault, w_t_read]))]) [0] (by decide) rfl
          have hFc := va_free (wc := [(a_t, .inr (3, [.ref a_t_tape, .int i_t_size, .int i_t_place_5, .int i_t_fault, w_t_read]))]) hD hS hA [0] rfl
          refine va_callv (va_runU (As := []) (rest := []) ⟨hx, hb, hml, hown, hts⟩ (MX2_fail_X4 l D cyI cyZ cyC ro ce cin ad a_t  (.ref a_t_tape) (.int i_t_size) (w_t_read) H.size i_t_place_5 i_t_fault QK  hq) (va_cwU 0 hts gX2_needsAll_X2_fail_u52X4 rfl rfl rfl rfl dmX2_failu ⟨Nat.le_of_ble_eq_true rfl, Nat.le_of_ble_eq_true rfl⟩) ⟨pre_bl, va_recv hK hPc (ci := 3) (q0 := 0) rfl rfl, fun U hU hW => ⟨rfl, pre_of hX hS hK hPc hDc hFc hU hW⟩⟩ rfl rfl hl.1 rfl (lv_room (Nat.le_of_ble_eq_true rfl)) dX2_needsAll_23 ⟨Nat.zero_le _, Nat.zero_le _⟩) hS (fun q _ h => hFc q h) hFc (fun u t H1 locs ht hvm hw hB hz1 hk1 hS => ?_)
          obtain ⟨i_t_fault_8, rfl⟩ : ∃ z, z = u := ⟨u, rfl⟩
          replace hw : QK i_t_fault_8 := hw
          clear hq
          subst eQ
          obtain ⟨hP1, hD1⟩ := hB
          rw [ht] at hP1
          obtain ⟨hP, hD⟩ := va_join (wr := [(a_t_tape, .inl (cyI, 120, .inl f_t_tape))]) (w1 := [(a_t, .inr (3, [.ref a_t_tape, .int i_t_size, .int i_t_place_5, .int i_t_fault_8, w_t_read]))]) hP hD [0] [1] rfl rfl (by decide) (by decide) hk1 hFc hP1 hD1
          clear hPc hDc hFc hk1 hz1 hP1 hD1 ht hvm
          generalize H1 = H at hP hS ⊢
          replace hP : va_P D vwCl [(a_t_tape, .inl (cyI, 120, .inl f_t_tape)), (a_t, .inr (3, [.ref a_t_tape, .int i_t_size, .int i_t_place_5, .int i_t_fault_8, w_t_read]))] H := hP
          replace hD : va_D A [(a_t_tape, .inl (cyI, 120, .inl f_t_tape)), (a_t, .inr (3, [.ref a_t_tape, .int i_t_size, .int i_t_place_5, .int i_t_fault_8, w_t_read]))] := hD
          have hPj := hP.sub (ws' := [(a_t, .inr (3, [.ref a_t_tape, .int i_t_size, .int i_t_place_5, .int i_t_fault_8, w_t_read])), (a_t_tape, .inl (cyI, 120, .inl f_t_tape))]) [1, 0] rfl
          have hDj := hD.sub (ws' := [(a_t, .inr (3, [.ref a_t_tape, .int i_t_size, .int i_t_place_5, .int i_t_fault_8, w_t_read])), (a_t_tape, .inl (cyI, 120, .inl f_t_tape))]) [1, 0] (by decide) rfl
          exact B26 x2 i_t_place_5 i_t_fault_8 hw _ _ hPj hDj hS _ (lv_sub hl [0, 1, 2] rfl)
  unfold WX2_needsAll_X4 at hw
  refine lv_iconst (v := 0) hx hb dX2_needsAll_0 (by decide) ?_
  refine lv_istore_n (lv' := [(2, .int 0), (0, .ref a_t), (1, .ref (ad.1 z1))]) hx hb dX2_needsAll_1 rfl hl (by decide) rfl (fun ls hl => ?_)
  obtain ⟨nn, hw⟩ := hw
  exact B2 nn 0 i_t_place i_t_fault hw _ _ hP hD hS _ (lv_sub hl [1, 2, 0] rfl)
set_option maxHeartbeats 8000000 in
set_option maxRecDepth 100000 in
theorem MX2_digit_X4 (l : Launch) (D : va_G) (cyI cyZ cyC : ClassId) (ro : va_W) (ce : Nat → CT) (cin : Nat → Prop) (ad : AD) (a_t a_t_tape : Nat) (w_t_read : Value) (sz : Nat) (x1 : Int32) (x2 : Int32) (i_t_size : Int32) (i_t_place : Int32) (i_t_fault : Int32) (f_t_tape : Nat → Int32) (Q : Int32 → Int32 → Int32 → Prop)  (hw : WX2_digit_X4 x1 x2 i_t_size i_t_place i_t_fault f_t_tape Q) : Met l yX2_digit wsX2_digit ({ frames := 1, cells := 0, slots := 0, locals := 20 }) (va_Pc [.ref a_t, .int x1, .int x2] (PRE D cyI cyZ cyC ro ce cin ad (SX2_digit_X4 cyI cyZ cyC a_t a_t_tape w_t_read  i_t_size i_t_place i_t_fault f_t_tape) sz)) (va_Qi (fun (r : Int32) (u : Int32 × Int32) => Q r u.1 u.2) (fun (u : Int32 × Int32) (t : State) => POST D (va_A (SX2_digit_X4 cyI cyZ cyC a_t a_t_tape w_t_read  i_t_size i_t_place i_t_fault f_t_tape) sz) (SX2_digit_X4 cyI cyZ cyC a_t a_t_tape w_t_read  i_t_size u.1 u.2 f_t_tape) t) (va_A (SX2_digit_X4 cyI cyZ cyC a_t a_t_tape w_t_read  i_t_size i_t_place i_t_fault f_t_tape) sz)) 0 0 (va_A (SX2_digit_X4 cyI cyZ cyC a_t a_t_tape w_t_read  i_t_size i_t_place i_t_fault f_t_tape) sz) := by
  refine Met.ofW (cc := cX2_digit) (maxL := 4) (ret := (some .int)) (by decide +kernel) rfl ?_
  intro p e s m args below meth c s₁ B hml hv
  obtain ⟨rfl, hsz, hP, hK, hD0, hX⟩ := hv
  have hx := B.exec
  have hb := B.bytes
  have hr := B.returns
  have hts := atoms_spec (ws := wsX2_digit) B.pre
  have hown : s.vm.findClass RX2 = some m.cls := findClass_of_methodNamed B.named
  have hlocks := B.notSynchronized
  clear B
  subst hsz
  have hD := hD0.self (sz := s.heap.size)
  clear hD0
  generalize hAe : va_A (SX2_digit_X4 cyI cyZ cyC a_t a_t_tape w_t_read  i_t_size i_t_place i_t_fault f_t_tape) s.heap.size = A at hD hX ⊢
  have hA : ∀ q : Nat, s.heap.size ≤ q → A q := fun q h => by rw [← hAe]; exact Or.inr h
  clear hAe
  obtain ⟨H, hH⟩ : ∃ H, H = s.heap := ⟨_, rfl⟩
  rw [← hH] at hP ⊢
  have hS : va_S A s.heap H [] := by rw [hH]; exact va_S.rf
  clear hH
  replace hP : va_P D vwCl [(a_t, .inr (3, [.ref a_t_tape, .int i_t_size, .int i_t_place, .int i_t_fault, w_t_read])), (a_t_tape, .inl (cyI, 120, .inl f_t_tape))] H := hP
  replace hD : va_D A [(a_t, .inr (3, [.ref a_t_tape, .int i_t_size, .int i_t_place, .int i_t_fault, w_t_read])), (a_t_tape, .inl (cyI, 120, .inl f_t_tape))] := hD
  have hl := lv_entry ([.ref a_t, .int x1, .int x2]) (n := 4) (Nat.le_of_ble_eq_true rfl)
  rw [lg_entry_eq]
  generalize (lg_sl ([.ref a_t, .int x1, .int x2]) ++ List.replicate (4 - (lg_sl ([.ref a_t, .int x1, .int x2])).length) Slot.unset).toArray = ls at hl ⊢
  replace hl : lv_has ls 4 [(0, .ref a_t), (1, .int x1), (2, .int x2)] := hl
  have B18 : ∀ (i_t_place : Int32) (i_t_fault : Int32), WX2_digit_X4_18 x1 i_t_size f_t_tape i_t_place i_t_fault Q  → ∀ (H : Heap) (locs : List Loc), va_P D vwCl [(a_t, .inr (3, [.ref a_t_tape, .int i_t_size, .int i_t_place, .int i_t_fault, w_t_read])), (a_t_tape, .inl (cyI, 120, .inl f_t_tape))] H → va_D A [(a_t, .inr (3, [.ref a_t_tape, .int i_t_size, .int i_t_place, .int i_t_fault, w_t_read])), (a_t_tape, .inl (cyI, 120, .inl f_t_tape))] → va_S A s.heap H locs → ∀ (ls : Array Slot), lv_has ls 4 [(0, .ref a_t), (1, .int x1)] → W p l e { frames := 1, cells := 0, slots := 0, locals := 20 } s m ([.ref a_t, .int x1, .int x2] : List Value).toArray below meth c H locs 0 0 (MQ below (va_Qi (fun (r : Int32) (u : Int32 × Int32) => Q r u.1 u.2) (fun (u : Int32 × Int32) (t : State) => POST D A (SX2_digit_X4 cyI cyZ cyC a_t a_t_tape w_t_read  i_t_size u.1 u.2 f_t_tape) t) A) ([.ref a_t, .int x1, .int x2] : List Value).toArray s 0 0 A) (F0 m 18 ls []) := by
    intro i_t_place i_t_fault hw H locs hP hD hS ls hl
    unfold WX2_digit_X4_18 at hw
    refine lv_aload_n hx hb dX2_digit_18 rfl (lv_at hl 0 rfl) ?_
    obtain ⟨QK, eQ, hq⟩ := genq (P := WX2_fail_X4 i_t_place i_t_fault) hw
    clear hw
    have hPc := hP.sub (ws' := [(a_t, .inr (3, [.ref a_t_tape, .int i_t_size, .int i_t_place, .int i_t_fault, w_t_read]))]) [0] rfl
    have hDc := hD.sub (ws' := [(a_t, .inr (3, [.ref a_t_tape, .int i_t_size, .int i_t_place, .int i_t_fault, w_t_read]))]) [0] (by decide) rfl
    have hFc := va_free (wc := [(a_t, .inr (3, [.ref a_t_tape, .int i_t_size, .int i_t_place, .int i_t_fault, w_t_read]))]) hD hS hA [0] rfl
    refine va_callv (va_runU (As := []) (rest := []) ⟨hx, hb, hml, hown, hts⟩ (MX2_fail_X4 l D cyI cyZ cyC ro ce cin ad a_t  (.ref a_t_tape) (.int i_t_size) (w_t_read) H.size i_t_place i_t_fault QK  hq) (va_cwU 0 hts gX2_digit_X2_fail_u52X4 rfl rfl rfl rfl dmX2_failu ⟨Nat.le_of_ble_eq_true rfl, Nat.le_of_ble_eq_true rfl⟩) ⟨pre_bl, va_recv hK hPc (ci := 3) (q0 := 0) rfl rfl, fun U hU hW => ⟨rfl, pre_of hX hS hK hPc hDc hFc hU hW⟩⟩ rfl rfl hl.1 rfl (lv_room (Nat.le_of_ble_eq_true rfl)) dX2_digit_19 ⟨Nat.zero_le _, Nat.zero_le _⟩) hS (fun q _ h => hFc q h) hFc (fun u t H1 locs ht hvm hw hB hz1 hk1 hS => ?_)
    obtain ⟨i_t_fault_4, rfl⟩ : ∃ z, z = u := ⟨u, rfl⟩
    replace hw : QK i_t_fault_4 := hw
    clear hq
    subst eQ
    obtain ⟨hP1, hD1⟩ := hB
    rw [ht] at hP1
    obtain ⟨hP, hD⟩ := va_join (wr := [(a_t_tape, .inl (cyI, 120, .inl f_t_tape))]) (w1 := [(a_t, .inr (3, [.ref a_t_tape, .int i_t_size, .int i_t_place, .int i_t_fault_4, w_t_read]))]) hP hD [0] [1] rfl rfl (by decide) (by decide) hk1 hFc hP1 hD1
    clear hPc hDc hFc hk1 hz1 hP1 hD1 ht hvm
    generalize H1 = H at hP hS ⊢
    replace hP : va_P D vwCl [(a_t_tape, .inl (cyI, 120, .inl f_t_tape)), (a_t, .inr (3, [.ref a_t_tape, .int i_t_size, .int i_t_place, .int i_t_fault_4, w_t_read]))] H := hP
    replace hD : va_D A [(a_t_tape, .inl (cyI, 120, .inl f_t_tape)), (a_t, .inr (3, [.ref a_t_tape, .int i_t_size, .int i_t_place, .int i_t_fault_4, w_t_read]))] := hD
    refine lv_iload_n hx hb dX2_digit_22 rfl (lv_at hl 1 rfl) ?_
    have hPj := hP.sub (ws' := [(a_t, .inr (3, [.ref a_t_tape, .int i_t_size, .int i_t_place, .int i_t_fault_4, w_t_read])), (a_t_tape, .inl (cyI, 120, .inl f_t_tape))]) [1, 0] rfl
    have hDj := hD.sub (ws' := [(a_t, .inr (3, [.ref a_t_tape, .int i_t_size, .int i_t_place, .int i_t_fault_4, w_t_read])), (a_t_tape, .inl (cyI, 120, .inl f_t_tape))]) [1, 0] (by decide) rfl
    exact W.iret (v := x1) hx hb hr (fun t ht hW => ⟨⟨x1, (i_t_place, i_t_fault_4), rfl, hw, post_mk ht hPj hDj⟩, hS.F ht⟩) hS.2.2 dX2_digit_23 hlocks
  unfold WX2_digit_X4 at hw
  refine lv_aload_n hx hb dX2_digit_0 rfl (lv_at hl 0 rfl) ?_
  obtain ⟨QK, eQ, hq⟩ := genq (P := WX2_next_X4 i_t_size i_t_place i_t_fault f_t_tape) hw
  clear hw
  have hPc := hP.sub (ws' := [(a_t, .inr (3, [.ref a_t_tape, .int i_t_size, .int i_t_place, .int i_t_fault, w_t_read])), (a_t_tape, .inl (cyI, 120, .inl f_t_tape))]) [0, 1] rfl
  have hDc := hD.sub (ws' := [(a_t, .inr (3, [.ref a_t_tape, .int i_t_size, .int i_t_place, .int i_t_fault, w_t_read])), (a_t_tape, .inl (cyI, 120, .inl f_t_tape))]) [0, 1] (by decide) rfl
  have hFc := va_free (wc := [(a_t, .inr (3, [.ref a_t_tape, .int i_t_size, .int i_t_place, .int i_t_fault, w_t_read])), (a_t_tape, .inl (cyI, 120, .inl f_t_tape))]) hD hS hA [0, 1] rfl
  refine va_calli (va_runU (As := []) (rest := []) ⟨hx, hb, hml, hown, hts⟩ (MX2_next_X4 l D cyI cyZ cyC ro ce cin ad a_t a_t_tape  (w_t_read) H.size i_t_size i_t_place i_t_fault f_t_tape QK  hq) (va_cwU 0 hts gX2_digit_X2_next_u44X4 rfl rfl rfl rfl dmX2_nextu ⟨Nat.le_of_ble_eq_true rfl, Nat.le_of_ble_eq_true rfl⟩) ⟨pre_bl, va_recv hK hPc (ci := 3) (q0 := 0) rfl rfl, fun U hU hW => ⟨rfl, pre_of hX hS hK hPc hDc hFc hU hW⟩⟩ rfl rfl hl.1 rfl (lv_room (Nat.le_of_ble_eq_true rfl)) dX2_digit_1 ⟨Nat.zero_le _, Nat.zero_le _⟩) hS (fun q _ h => hFc q h) hFc (fun r1 u t H1 locs ht hvm hw hB hz1 hk1 hS => ?_)
  replace hw : QK r1 := hw
  clear hq
  subst eQ
  obtain ⟨hP1, hD1⟩ := hB
  rw [ht] at hP1
  obtain ⟨hP, hD⟩ := va_join (wr := []) (w1 := [(a_t, .inr (3, [.ref a_t_tape, .int i_t_size, .int i_t_place, .int i_t_fault, w_t_read])), (a_t_tape, .inl (cyI, 120, .inl f_t_tape))]) hP hD [0, 1] [] rfl rfl (by decide) (by decide) hk1 hFc hP1 hD1
  clear hPc hDc hFc hk1 hz1 hP1 hD1 ht hvm
  generalize H1 = H at hP hS ⊢
  replace hP : va_P D vwCl [(a_t, .inr (3, [.ref a_t_tape, .int i_t_size, .int i_t_place, .int i_t_fault, w_t_read])), (a_t_tape, .inl (cyI, 120, .inl f_t_tape))] H := hP
  replace hD : va_D A [(a_t, .inr (3, [.ref a_t_tape, .int i_t_size, .int i_t_place, .int i_t_fault, w_t_read])), (a_t_tape, .inl (cyI, 120, .inl f_t_tape))] := hD
  refine lv_bipush (v := 48) hx hb dX2_digit_4 (by decide) ?_
  refine lv_isub hx hb dX2_digit_6 ?_
  refine lv_topi (fun y2 ey2 => ?_)
  replace hw := hw y2 ey2
  refine lv_istore_n (lv' := [(3, .int y2), (0, .ref a_t), (1, .int x1), (2, .int x2)]) hx hb dX2_digit_7 rfl hl (by decide) rfl (fun ls hl => ?_)
  refine lv_iload_n hx hb dX2_digit_8 rfl (lv_at hl 0 rfl) ?_
  refine lv_iload_n hx hb dX2_digit_9 rfl (lv_at hl 2 rfl) ?_
  refine lv_icmp_lt (tgt := 18) hx hb dX2_digit_10 (by decide) (fun c3 => ?_) (fun c3 => ?_)
  · replace hw := hw.1 c3
    exact B18 i_t_place i_t_fault hw _ _ hP hD hS _ (lv_sub hl [1, 2] rfl)
  · replace hw := hw.2 c3
    refine lv_iload_n hx hb dX2_digit_13 rfl (lv_at hl 0 rfl) ?_
    refine lv_iload_n hx hb dX2_digit_14 rfl (lv_at hl 3 rfl) ?_
    refine lv_icmp_le (tgt := 24) hx hb dX2_digit_15 (by decide) (fun c5 => ?_) (fun c5 => ?_)
    · replace hw := hw.1 c5
      refine lv_aload_n hx hb dX2_digit_24 rfl (lv_at hl 1 rfl) ?_
      refine lv_dup hx hb dX2_digit_25 rfl ?_
      refine va_get (D := D) (ci := 3) (v := .int i_t_place) (C := RX4) (T := TX4) (N := 5) hx hb hts inX2_digit_X4 hown hK hP 0 rfl rfl 2 (by decide) (hts _ (List.mem_of_getElem? (i := 1) rfl)) (fun _ h9 => h9) rfl dX2_digit_26 ?_
      refine lv_iconst (v := 1) hx hb dX2_digit_29 (by decide) ?_
      refine lv_iadd hx hb dX2_digit_30 ?_
      refine lv_topi (fun y6 ey6 => ?_)
      replace hw := hw y6 ey6
      refine va_put (D := D) (ci := 3) (v := .int y6) (ty := .int) (C := RX4) (T := TX4) (N := 5) hx hb hts inX2_digit_X4 tyX4 tyX4_ok nmX4 hown hK hP hD hS 0 rfl rfl 2 (by decide) (hts _ (List.mem_of_getElem? (i := 1) rfl)) (fun _ h9 => h9) rfl (tyX4_ok 2 (by decide)) rfl rfl (Nat.le_of_ble_eq_true rfl) dX2_digit_31 (fun H locs hP hD hS => ?_)
      replace hP : va_P D vwCl [(a_t, .inr (3, [.ref a_t_tape, .int i_t_size, .int y6, .int i_t_fault, w_t_read])), (a_t_tape, .inl (cyI, 120, .inl f_t_tape))] H := hP
      replace hD : va_D A [(a_t, .inr (3, [.ref a_t_tape, .int i_t_size, .int y6, .int i_t_fault, w_t_read])), (a_t_tape, .inl (cyI, 120, .inl f_t_tape))] := hD
      refine lv_iload_n hx hb dX2_digit_34 rfl (lv_at hl 0 rfl) ?_
      exact W.iret (v := y2) hx hb hr (fun t ht hW => ⟨⟨y2, (y6, i_t_fault), rfl, hw, post_mk ht hP hD⟩, hS.F ht⟩) hS.2.2 dX2_digit_35 hlocks
    · replace hw := hw.2 c5
      exact B18 i_t_place i_t_fault hw _ _ hP hD hS _ (lv_sub hl [1, 2] rfl)
set_option maxHeartbeats 8000000 in
set_option maxRecDepth 100000 in
theorem MX4_readSpanOrSum (l : Launch) (D : va_G) (cyI cyZ cyC : ClassId) (ro : va_W) (ce : Nat → CT) (cin : Nat → Prop) (ad : AD) (a_t a_t_tape a_t_read : Nat) (w_t_read_reaches w_t_read_odds w_t_read_bank w_t_read_mill w_t_read_hung w_t_read_water : Value) (sz : Nat) (i_t_size : Int32) (i_t_place : Int32) (i_t_fault : Int32) (f_t_tape : Nat → Int32) (i_t_read_span : Int32) (i_t_read_sum : Int32) (Q : Int32 → Int32 → Int32 → Int32 → Prop)  (hw : WX4_readSpanOrSum i_t_size i_t_place i_t_fault f_t_tape i_t_read_span i_t_read_sum Q) : Met l yX4_readSpanOrSum wsX4_readSpanOrSum ({ frames := 6, cells := 0, slots := 0, locals := 128 }) (va_Pc [.ref a_t] (PRE D cyI cyZ cyC ro ce cin ad (SX4_readSpanOrSum cyI cyZ cyC a_t a_t_tape a_t_read w_t_read_reaches w_t_read_odds w_t_read_bank w_t_read_mill w_t_read_hung w_t_read_water  i_t_size i_t_place i_t_fault f_t_tape i_t_read_span i_t_read_sum) sz)) (va_Qv (fun (u : Int32 × Int32 × Int32 × Int32) => Q u.1 u.2.1 u.2.2.1 u.2.2.2) (fun (u : Int32 × Int32 × Int32 × Int32) (t : State) => POST D (va_A (SX4_readSpanOrSum cyI cyZ cyC a_t a_t_tape a_t_read w_t_read_reaches w_t_read_odds w_t_read_bank w_t_read_mill w_t_read_hung w_t_read_water  i_t_size i_t_place i_t_fault f_t_tape i_t_read_span i_t_read_sum) sz) (SX4_readSpanOrSum cyI cyZ cyC a_t a_t_tape a_t_read w_t_read_reaches w_t_read_odds w_t_read_bank w_t_read_mill w_t_read_hung w_t_read_water  i_t_size u.1 u.2.1 f_t_tape u.2.2.1 u.2.2.2) t) (va_A (SX4_readSpanOrSum cyI cyZ cyC a_t a_t_tape a_t_read w_t_read_reaches w_t_read_odds w_t_read_bank w_t_read_mill w_t_read_hung w_t_read_water  i_t_size i_t_place i_t_fault f_t_tape i_t_read_span i_t_read_sum) sz)) 0 0 (va_A (SX4_readSpanOrSum cyI cyZ cyC a_t a_t_tape a_t_read w_t_read_reaches w_t_read_odds w_t_read_bank w_t_read_mill w_t_read_hung w_t_read_water  i_t_size i_t_place i_t_fault f_t_tape i_t_read_span i_t_read_sum) sz) := by
  refine Met.ofW (cc := cX4_readSpanOrSum) (maxL := 1) (ret := none) (by decide +kernel) rfl ?_
  intro p e s m args below meth c s₁ B hml hv
  obtain ⟨rfl, hsz, hP, hK, hD0, hX⟩ := hv
  have hx := B.exec
  have hb := B.bytes
  have hr := B.returns
  have hts := atoms_spec (ws := wsX4_readSpanOrSum) B.pre
  have hown : s.vm.findClass RX4 = some m.cls := findClass_of_methodNamed B.named
  have hlocks := B.notSynchronized
  clear B
  subst hsz
  have hD := hD0.self (sz := s.heap.size)
  clear hD0
  generalize hAe : va_A (SX4_readSpanOrSum cyI cyZ cyC a_t a_t_tape a_t_read w_t_read_reaches w_t_read_odds w_t_read_bank w_t_read_mill w_t_read_hung w_t_read_water  i_t_size i_t_place i_t_fault f_t_tape i_t_read_span i_t_read_sum) s.heap.size = A at hD hX ⊢
  have hA : ∀ q : Nat, s.heap.size ≤ q → A q := fun q h => by rw [← hAe]; exact Or.inr h
  clear hAe
  obtain ⟨H, hH⟩ : ∃ H, H = s.heap := ⟨_, rfl⟩
  rw [← hH] at hP ⊢
  have hS : va_S A s.heap H [] := by rw [hH]; exact va_S.rf
  clear hH
  replace hP : va_P D vwCl [(a_t, .inr (3, [.ref a_t_tape, .int i_t_size, .int i_t_place, .int i_t_fault, .ref a_t_read])), (a_t_tape, .inl (cyI, 120, .inl f_t_tape)), (a_t_read, .inr (2, [w_t_read_reaches, .int i_t_read_span, .int i_t_read_sum, w_t_read_odds, w_t_read_bank, w_t_read_mill, w_t_read_hung, w_t_read_water]))] H := hP
  replace hD : va_D A [(a_t, .inr (3, [.ref a_t_tape, .int i_t_size, .int i_t_place, .int i_t_fault, .ref a_t_read])), (a_t_tape, .inl (cyI, 120, .inl f_t_tape)), (a_t_read, .inr (2, [w_t_read_reaches, .int i_t_read_span, .int i_t_read_sum, w_t_read_odds, w_t_read_bank, w_t_read_mill, w_t_read_hung, w_t_read_water]))] := hD
  have hl := lv_entry ([.ref a_t]) (n := 1) (Nat.le_of_ble_eq_true rfl)
  rw [lg_entry_eq]
  generalize (lg_sl ([.ref a_t]) ++ List.replicate (1 - (lg_sl ([.ref a_t])).length) Slot.unset).toArray = ls at hl ⊢
  replace hl : lv_has ls 1 [(0, .ref a_t)] := hl
  unfold WX4_readSpanOrSum at hw
  refine lv_aload_n hx hb dX4_readSpanOrSum_0 rfl (lv_at hl 0 rfl) ?_
  refine lv_bipush (v := 112) hx hb dX4_readSpanOrSum_1 (by decide) ?_
  obtain ⟨QK, eQ, hq⟩ := genq (P := WX2_takes_X4 112 i_t_size i_t_place i_t_fault f_t_tape) hw
  clear hw
  have hPc := hP.sub (ws' := [(a_t, .inr (3, [.ref a_t_tape, .int i_t_size, .int i_t_place, .int i_t_fault, .ref a_t_read])), (a_t_tape, .inl (cyI, 120, .inl f_t_tape))]) [0, 1] rfl
  have hDc := hD.sub (ws' := [(a_t, .inr (3, [.ref a_t_tape, .int i_t_size, .int i_t_place, .int i_t_fault, .ref a_t_read])), (a_t_tape, .inl (cyI, 120, .inl f_t_tape))]) [0, 1] (by decide) rfl
  have hFc := va_free (wc := [(a_t, .inr (3, [.ref a_t_tape, .int i_t_size, .int i_t_place, .int i_t_fault, .ref a_t_read])), (a_t_tape, .inl (cyI, 120, .inl f_t_tape))]) hD hS hA [0, 1] rfl
  refine va_calli (va_runU (As := [.int 112]) (rest := []) ⟨hx, hb, hml, hown, hts⟩ (MX2_takes_X4 l D cyI cyZ cyC ro ce cin ad a_t a_t_tape  (.ref a_t_read) H.size 112 i_t_size i_t_place i_t_fault f_t_tape QK  hq) (va_cwU 1 hts gX4_readSpanOrSum_X2_takes_u28X4 rfl rfl rfl rfl dmX2_takesu ⟨Nat.le_of_ble_eq_true rfl, Nat.le_of_ble_eq_true rfl⟩) ⟨pre_bl, va_recv hK hPc (ci := 3) (q0 := 0) rfl rfl, fun U hU hW => ⟨rfl, pre_of hX hS hK hPc hDc hFc hU hW⟩⟩ rfl rfl hl.1 rfl (lv_room (Nat.le_of_ble_eq_true rfl)) dX4_readSpanOrSum_3 ⟨Nat.zero_le _, Nat.zero_le _⟩) hS (fun q _ h => hFc q h) hFc (fun r1 u t H1 locs ht hvm hw hB hz1 hk1 hS => ?_)
  obtain ⟨i_t_place_2, rfl⟩ : ∃ z, z = u := ⟨u, rfl⟩
  replace hw : QK r1 i_t_place_2 := hw
  clear hq
  subst eQ
  obtain ⟨hP1, hD1⟩ := hB
  rw [ht] at hP1
  obtain ⟨hP, hD⟩ := va_join (wr := [(a_t_read, .inr (2, [w_t_read_reaches, .int i_t_read_span, .int i_t_read_sum, w_t_read_odds, w_t_read_bank, w_t_read_mill, w_t_read_hung, w_t_read_water]))]) (w1 := [(a_t, .inr (3, [.ref a_t_tape, .int i_t_size, .int i_t_place_2, .int i_t_fault, .ref a_t_read])), (a_t_tape, .inl (cyI, 120, .inl f_t_tape))]) hP hD [0, 1] [2] rfl rfl (by decide) (by decide) hk1 hFc hP1 hD1
  clear hPc hDc hFc hk1 hz1 hP1 hD1 ht hvm
  generalize H1 = H at hP hS ⊢
  replace hP : va_P D vwCl [(a_t_read, .inr (2, [w_t_read_reaches, .int i_t_read_span, .int i_t_read_sum, w_t_read_odds, w_t_read_bank, w_t_read_mill, w_t_read_hung, w_t_read_water])), (a_t, .inr (3, [.ref a_t_tape, .int i_t_size, .int i_t_place_2, .int i_t_fault, .ref a_t_read])), (a_t_tape, .inl (cyI, 120, .inl f_t_tape))] H := hP
  replace hD : va_D A [(a_t_read, .inr (2, [w_t_read_reaches, .int i_t_read_span, .int i_t_read_sum, w_t_read_odds, w_t_read_bank, w_t_read_mill, w_t_read_hung, w_t_read_water])), (a_t, .inr (3, [.ref a_t_tape, .int i_t_size, .int i_t_place_2, .int i_t_fault, .ref a_t_read])), (a_t_tape, .inl (cyI, 120, .inl f_t_tape))] := hD
  refine lv_if_eq (tgt := 40) hx hb dX4_readSpanOrSum_6 (by decide) (fun c3 => ?_) (fun c3 => ?_)
  · replace hw := hw.1 c3
    refine lv_aload_n hx hb dX4_readSpanOrSum_40 rfl (lv_at hl 0 rfl) ?_
    refine va_ldcS (tx := "um ") (q := ad.1 3) hx hb hown (hX.env.2.1 ("SluiceCards$RiverReader", 91, "um ", 3) (List.mem_of_getElem? (i := 3) rfl)) dX4_readSpanOrSum_41 ?_
    obtain ⟨QK, eQ, hq⟩ := genq (P := WX2_needsAll_X4 3 i_t_size i_t_place_2 i_t_fault f_t_tape) hw
    clear hw
    have hPc := hP.sub (ws' := [(a_t, .inr (3, [.ref a_t_tape, .int i_t_size, .int i_t_place_2, .int i_t_fault, .ref a_t_read])), (a_t_tape, .inl (cyI, 120, .inl f_t_tape))]) [1, 2] rfl
    have hDc := hD.sub (ws' := [(a_t, .inr (3, [.ref a_t_tape, .int i_t_size, .int i_t_place_2, .int i_t_fault, .ref a_t_read])), (a_t_tape, .inl (cyI, 120, .inl f_t_tape))]) [1, 2] (by decide) rfl
    have hFc := va_free (wc := [(a_t, .inr (3, [.ref a_t_tape, .int i_t_size, .int i_t_place_2, .int i_t_fault, .ref a_t_read])), (a_t_tape, .inl (cyI, 120, .inl f_t_tape))]) hD hS hA [1, 2] rfl
    refine va_callv (va_runU (As := [.ref (ad.1 3)]) (rest := []) ⟨hx, hb, hml, hown, hts⟩ (MX2_needsAll_X4 l D cyI cyZ cyC ro ce cin ad a_t a_t_tape  (.ref a_t_read) H.size 3 i_t_size i_t_place_2 i_t_fault f_t_tape QK (by decide) hq) (va_cwU 1 hts gX4_readSpanOrSum_X2_needsAll_u54X4 rfl rfl rfl rfl dmX2_needsAllu ⟨Nat.le_of_ble_eq_true rfl, Nat.le_of_ble_eq_true rfl⟩) ⟨pre_bl, va_recv hK hPc (ci := 3) (q0 := 0) rfl rfl, fun U hU hW => ⟨rfl, pre_of hX hS hK hPc hDc hFc hU hW⟩⟩ rfl rfl hl.1 rfl (lv_room (Nat.le_of_ble_eq_true rfl)) dX4_readSpanOrSum_43 ⟨Nat.zero_le _, Nat.zero_le _⟩) hS (fun q _ h => hFc q h) hFc (fun u t H1 locs ht hvm hw hB hz1 hk1 hS => ?_)
    obtain ⟨i_t_place_4, i_t_fault_5⟩ := u
    replace hw : QK i_t_place_4 i_t_fault_5 := hw
    clear hq
    subst eQ
    obtain ⟨hP1, hD1⟩ := hB
    rw [ht] at hP1
    obtain ⟨hP, hD⟩ := va_join (wr := [(a_t_read, .inr (2, [w_t_read_reaches, .int i_t_read_span, .int i_t_read_sum, w_t_read_odds, w_t_read_bank, w_t_read_mill, w_t_read_hung, w_t_read_water]))]) (w1 := [(a_t, .inr (3, [.ref a_t_tape, .int i_t_size, .int i_t_place_4, .int i_t_fault_5, .ref a_t_read])), (a_t_tape, .inl (cyI, 120, .inl f_t_tape))]) hP hD [1, 2] [0] rfl rfl (by decide) (by decide) hk1 hFc hP1 hD1
    clear hPc hDc hFc hk1 hz1 hP1 hD1 ht hvm
    generalize H1 = H at hP hS ⊢
    replace hP : va_P D vwCl [(a_t_read, .inr (2, [w_t_read_reaches, .int i_t_read_span, .int i_t_read_sum, w_t_read_odds, w_t_read_bank, w_t_read_mill, w_t_read_hung, w_t_read_water])), (a_t, .inr (3, [.ref a_t_tape, .int i_t_size, .int i_t_place_4, .int i_t_fault_5, .ref a_t_read])), (a_t_tape, .inl (cyI, 120, .inl f_t_tape))] H := hP
    replace hD : va_D A [(a_t_read, .inr (2, [w_t_read_reaches, .int i_t_read_span, .int i_t_read_sum, w_t_read_odds, w_t_read_bank, w_t_read_mill, w_t_read_hung, w_t_read_water])), (a_t, .inr (3, [.ref a_t_tape, .int i_t_size, .int i_t_place_4, .int i_t_fault_5, .ref a_t_read])), (a_t_tape, .inl (cyI, 120, .inl f_t_tape))] := hD
    refine lv_aload_n hx hb dX4_readSpanOrSum_46 rfl (lv_at hl 0 rfl) ?_
    refine va_get (D := D) (ci := 3) (v := .ref a_t_read) (C := RX4) (T := TX4) (N := 5) hx hb hts inX4_readSpanOrSum_X4 hown hK hP 1 rfl rfl 4 (by decide) (hts _ (List.mem_of_getElem? (i := 1) rfl)) (fun _ h9 => h9) rfl dX4_readSpanOrSum_47 ?_
    refine lv_aload_n hx hb dX4_readSpanOrSum_50 rfl (lv_at hl 0 rfl) ?_
    refine lv_iconst (v := 0) hx hb dX4_readSpanOrSum_51 (by decide) ?_
    refine lv_bipush (v := 9) hx hb dX4_readSpanOrSum_52 (by decide) ?_
    obtain ⟨QK, eQ, hq⟩ := genq (P := WX2_digit_X4 0 9 i_t_size i_t_place_4 i_t_fault_5 f_t_tape) hw
    clear hw
    have hPc := hP.sub (ws' := [(a_t, .inr (3, [.ref a_t_tape, .int i_t_size, .int i_t_place_4, .int i_t_fault_5, .ref a_t_read])), (a_t_tape, .inl (cyI, 120, .inl f_t_tape))]) [1, 2] rfl
    have hDc := hD.sub (ws' := [(a_t, .inr (3, [.ref a_t_tape, .int i_t_size, .int i_t_place_4, .int i_t_fault_5, .ref a_t_read])), (a_t_tape, .inl (cyI, 120, .inl f_t_tape))]) [1, 2] (by decide) rfl
    have hFc := va_free (wc := [(a_t, .inr (3, [.ref a_t_tape, .int i_t_size, .int i_t_place_4, .int i_t_fault_5, .ref a_t_read])), (a_t_tape, .inl (cyI, 120, .inl f_t_tape))]) hD hS hA [1, 2] rfl
    refine va_calli (va_runU (As := [.int 0, .int 9]) (rest := [.ref a_t_read]) ⟨hx, hb, hml, hown, hts⟩ (MX2_digit_X4 l D cyI cyZ cyC ro ce cin ad a_t a_t_tape  (.ref a_t_read) H.size 0 9 i_t_size i_t_place_4 i_t_fault_5 f_t_tape QK  hq) (va_cwU 2 hts gX4_readSpanOrSum_X2_digit_u58X4 rfl rfl rfl rfl dmX2_digitu ⟨Nat.le_of_ble_eq_true rfl, Nat.le_of_ble_eq_true rfl⟩) ⟨pre_bl, va_recv hK hPc (ci := 3) (q0 := 0) rfl rfl, fun U hU hW => ⟨rfl, pre_of hX hS hK hPc hDc hFc hU hW⟩⟩ rfl rfl hl.1 rfl (lv_room (Nat.le_of_ble_eq_true rfl)) dX4_readSpanOrSum_54 ⟨Nat.zero_le _, Nat.zero_le _⟩) hS (fun q _ h => hFc q h) hFc (fun r6 u t H1 locs ht hvm hw hB hz1 hk1 hS => ?_)
    obtain ⟨i_t_place_7, i_t_fault_8⟩ := u
    replace hw : QK r6 i_t_place_7 i_t_fault_8 := hw
    clear hq
    subst eQ
    obtain ⟨hP1, hD1⟩ := hB
    rw [ht] at hP1
    obtain ⟨hP, hD⟩ := va_join (wr := [(a_t_read, .inr (2, [w_t_read_reaches, .int i_t_read_span, .int i_t_read_sum, w_t_read_odds, w_t_read_bank, w_t_read_mill, w_t_read_hung, w_t_read_water]))]) (w1 := [(a_t, .inr (3, [.ref a_t_tape, .int i_t_size, .int i_t_place_7, .int i_t_fault_8, .ref a_t_read])), (a_t_tape, .inl (cyI, 120, .inl f_t_tape))]) hP hD [1, 2] [0] rfl rfl (by decide) (by decide) hk1 hFc hP1 hD1
    clear hPc hDc hFc hk1 hz1 hP1 hD1 ht hvm
    generalize H1 = H at hP hS ⊢
    replace hP : va_P D vwCl [(a_t_read, .inr (2, [w_t_read_reaches, .int i_t_read_span, .int i_t_read_sum, w_t_read_odds, w_t_read_bank, w_t_read_mill, w_t_read_hung, w_t_read_water])), (a_t, .inr (3, [.ref a_t_tape, .int i_t_size, .int i_t_place_7, .int i_t_fault_8, .ref a_t_read])), (a_t_tape, .inl (cyI, 120, .inl f_t_tape))] H := hP
    replace hD : va_D A [(a_t_read, .inr (2, [w_t_read_reaches, .int i_t_read_span, .int i_t_read_sum, w_t_read_odds, w_t_read_bank, w_t_read_mill, w_t_read_hung, w_t_read_water])), (a_t, .inr (3, [.ref a_t_tape, .int i_t_size, .int i_t_place_7, .int i_t_fault_8, .ref a_t_read])), (a_t_tape, .inl (cyI, 120, .inl f_t_tape))] := hD
    refine va_put (D := D) (ci := 2) (v := .int r6) (ty := .int) (C := RX3) (T := TX3) (N := 8) hx hb hts inX4_readSpanOrSum_X3 tyX3 tyX3_ok nmX3 hown hK hP hD hS 0 rfl rfl 2 (by decide) (hts _ (List.mem_of_getElem? (i := 10) rfl)) (fun _ h9 => h9) rfl (tyX3_ok 2 (by decide)) rfl rfl (Nat.le_of_ble_eq_true rfl) dX4_readSpanOrSum_57 (fun H locs hP hD hS => ?_)
    replace hP : va_P D vwCl [(a_t_read, .inr (2, [w_t_read_reaches, .int i_t_read_span, .int r6, w_t_read_odds, w_t_read_bank, w_t_read_mill, w_t_read_hung, w_t_read_water])), (a_t, .inr (3, [.ref a_t_tape, .int i_t_size, .int i_t_place_7, .int i_t_fault_8, .ref a_t_read])), (a_t_tape, .inl (cyI, 120, .inl f_t_tape))] H := hP
    replace hD : va_D A [(a_t_read, .inr (2, [w_t_read_reaches, .int i_t_read_span, .int r6, w_t_read_odds, w_t_read_bank, w_t_read_mill, w_t_read_hung, w_t_read_water])), (a_t, .inr (3, [.ref a_t_tape, .int i_t_size, .int i_t_place_7, .int i_t_fault_8, .ref a_t_read])), (a_t_tape, .inl (cyI, 120, .inl f_t_tape))] := hD
    have hPj := hP.sub (ws' := [(a_t, .inr (3, [.ref a_t_tape, .int i_t_size, .int i_t_place_7, .int i_t_fault_8, .ref a_t_read])), (a_t_tape, .inl (cyI, 120, .inl f_t_tape)), (a_t_read, .inr (2, [w_t_read_reaches, .int i_t_read_span, .int r6, w_t_read_odds, w_t_read_bank, w_t_read_mill, w_t_read_hung, w_t_read_water]))]) [1, 2, 0] rfl
    have hDj := hD.sub (ws' := [(a_t, .inr (3, [.ref a_t_tape, .int i_t_size, .int i_t_place_7, .int i_t_fault_8, .ref a_t_read])), (a_t_tape, .inl (cyI, 120, .inl f_t_tape)), (a_t_read, .inr (2, [w_t_read_reaches, .int i_t_read_span, .int r6, w_t_read_odds, w_t_read_bank, w_t_read_mill, w_t_read_hung, w_t_read_water]))]) [1, 2, 0] (by decide) rfl
    exact W.vret hx hb hr (fun t ht hW => ⟨⟨(i_t_place_7, i_t_fault_8, i_t_read_span, r6), rfl, hw, post_mk ht hPj hDj⟩, hS.F ht⟩) hS.2.2 dX4_readSpanOrSum_60 hlocks
  · replace hw := hw.2 c3
    refine lv_aload_n hx hb dX4_readSpanOrSum_9 rfl (lv_at hl 0 rfl) ?_
    refine va_ldcS (tx := "an ") (q := ad.1 2) hx hb hown (hX.env.2.1 ("SluiceCards$RiverReader", 78, "an ", 2) (List.mem_of_getElem? (i := 2) rfl)) dX4_readSpanOrSum_10 ?_
    obtain ⟨QK, eQ, hq⟩ := genq (P := WX2_needsAll_X4 2 i_t_size i_t_place_2 i_t_fault f_t_tape) hw
    clear hw
    have hPc := hP.sub (ws' := [(a_t, .inr (3, [.ref a_t_tape, .int i_t_size, .int i_t_place_2, .int i_t_fault, .ref a_t_read])), (a_t_tape, .inl (cyI, 120, .inl f_t_tape))]) [1, 2] rfl
    have hDc := hD.sub (ws' := [(a_t, .inr (3, [.ref a_t_tape, .int i_t_size, .int i_t_place_2, .int i_t_fault, .ref a_t_read])), (a_t_tape, .inl (cyI, 120, .inl f_t_tape))]) [1, 2] (by decide) rfl
    have hFc := va_free (wc := [(a_t, .inr (3, [.ref a_t_tape, .int i_t_size, .int i_t_place_2, .int i_t_fault, .ref a_t_read])), (a_t_tape, .inl (cyI, 120, .inl f_t_tape))]) hD hS hA [1, 2] rfl
    refine va_callv (va_runU (As := [.ref (ad.1 2)]) (rest := []) ⟨hx, hb, hml, hown, hts⟩ (MX2_needsAll_X4 l D cyI cyZ cyC ro ce cin ad a_t a_t_tape  (.ref a_t_read) H.size 2 i_t_size i_t_place_2 i_t_fault f_t_tape QK (by decide) hq) (va_cwU 1 hts gX4_readSpanOrSum_X2_needsAll_u54X4 rfl rfl rfl rfl dmX2_needsAllu ⟨Nat.le_of_ble_eq_true rfl, Nat.le_of_ble_eq_true rfl⟩) ⟨pre_bl, va_recv hK hPc (ci := 3) (q0 := 0) rfl rfl, fun U hU hW => ⟨rfl, pre_of hX hS hK hPc hDc hFc hU hW⟩⟩ rfl rfl hl.1 rfl (lv_room (Nat.le_of_ble_eq_true rfl)) dX4_readSpanOrSum_12 ⟨Nat.zero_le _, Nat.zero_le _⟩) hS (fun q _ h => hFc q h) hFc (fun u t H1 locs ht hvm hw hB hz1 hk1 hS => ?_)
    obtain ⟨i_t_place_9, i_t_fault_10⟩ := u
    replace hw : QK i_t_place_9 i_t_fault_10 := hw
    clear hq
    subst eQ
    obtain ⟨hP1, hD1⟩ := hB
    rw [ht] at hP1
    obtain ⟨hP, hD⟩ := va_join (wr := [(a_t_read, .inr (2, [w_t_read_reaches, .int i_t_read_span, .int i_t_read_sum, w_t_read_odds, w_t_read_bank, w_t_read_mill, w_t_read_hung, w_t_read_water]))]) (w1 := [(a_t, .inr (3, [.ref a_t_tape, .int i_t_size, .int i_t_place_9, .int i_t_fault_10, .ref a_t_read])), (a_t_tape, .inl (cyI, 120, .inl f_t_tape))]) hP hD [1, 2] [0] rfl rfl (by decide) (by decide) hk1 hFc hP1 hD1
    clear hPc hDc hFc hk1 hz1 hP1 hD1 ht hvm
    generalize H1 = H at hP hS ⊢
    replace hP : va_P D vwCl [(a_t_read, .inr (2, [w_t_read_reaches, .int i_t_read_span, .int i_t_read_sum, w_t_read_odds, w_t_read_bank, w_t_read_mill, w_t_read_hung, w_t_read_water])), (a_t, .inr (3, [.ref a_t_tape, .int i_t_size, .int i_t_place_9, .int i_t_fault_10, .ref a_t_read])), (a_t_tape, .inl (cyI, 120, .inl f_t_tape))] H := hP
    replace hD : va_D A [(a_t_read, .inr (2, [w_t_read_reaches, .int i_t_read_span, .int i_t_read_sum, w_t_read_odds, w_t_read_bank, w_t_read_mill, w_t_read_hung, w_t_read_water])), (a_t, .inr (3, [.ref a_t_tape, .int i_t_size, .int i_t_place_9, .int i_t_fault_10, .ref a_t_read])), (a_t_tape, .inl (cyI, 120, .inl f_t_tape))] := hD
    refine lv_aload_n hx hb dX4_readSpanOrSum_15 rfl (lv_at hl 0 rfl) ?_
    refine va_get (D := D) (ci := 3) (v := .ref a_t_read) (C := RX4) (T := TX4) (N := 5) hx hb hts inX4_readSpanOrSum_X4 hown hK hP 1 rfl rfl 4 (by decide) (hts _ (List.mem_of_getElem? (i := 1) rfl)) (fun _ h9 => h9) rfl dX4_readSpanOrSum_16 ?_
    refine lv_iconst (v := 1) hx hb dX4_readSpanOrSum_19 (by decide) ?_
    refine lv_iconst (v := 3) hx hb dX4_readSpanOrSum_20 (by decide) ?_
    refine lv_aload_n hx hb dX4_readSpanOrSum_21 rfl (lv_at hl 0 rfl) ?_
    refine lv_iconst (v := 0) hx hb dX4_readSpanOrSum_22 (by decide) ?_
    refine lv_bipush (v := 9) hx hb dX4_readSpanOrSum_23 (by decide) ?_
    obtain ⟨QK, eQ, hq⟩ := genq (P := WX2_digit_X4 0 9 i_t_size i_t_place_9 i_t_fault_10 f_t_tape) hw
    clear hw
    have hPc := hP.sub (ws' := [(a_t, .inr (3, [.ref a_t_tape, .int i_t_size, .int i_t_place_9, .int i_t_fault_10, .ref a_t_read])), (a_t_tape, .inl (cyI, 120, .inl f_t_tape))]) [1, 2] rfl
    have hDc := hD.sub (ws' := [(a_t, .inr (3, [.ref a_t_tape, .int i_t_size, .int i_t_place_9, .int i_t_fault_10, .ref a_t_read])), (a_t_tape, .inl (cyI, 120, .inl f_t_tape))]) [1, 2] (by decide) rfl
    have hFc := va_free (wc := [(a_t, .inr (3, [.ref a_t_tape, .int i_t_size, .int i_t_place_9, .int i_t_fault_10, .ref a_t_read])), (a_t_tape, .inl (cyI, 120, .inl f_t_tape))]) hD hS hA [1, 2] rfl
    refine va_calli (va_runU (As := [.int 0, .int 9]) (rest := [.int 3, .int 1, .ref a_t_read]) ⟨hx, hb, hml, hown, hts⟩ (MX2_digit_X4 l D cyI cyZ cyC ro ce cin ad a_t a_t_tape  (.ref a_t_read) H.size 0 9 i_t_size i_t_place_9 i_t_fault_10 f_t_tape QK  hq) (va_cwU 2 hts gX4_readSpanOrSum_X2_digit_u58X4 rfl rfl rfl rfl dmX2_digitu ⟨Nat.le_of_ble_eq_true rfl, Nat.le_of_ble_eq_true rfl⟩) ⟨pre_bl, va_recv hK hPc (ci := 3) (q0 := 0) rfl rfl, fun U hU hW => ⟨rfl, pre_of hX hS hK hPc hDc hFc hU hW⟩⟩ rfl rfl hl.1 rfl (lv_room (Nat.le_of_ble_eq_true rfl)) dX4_readSpanOrSum_25 ⟨Nat.zero_le _, Nat.zero_le _⟩) hS (fun q _ h => hFc q h) hFc (fun r11 u t H1 locs ht hvm hw hB hz1 hk1 hS => ?_)
    obtain ⟨i_t_place_12, i_t_fault_13⟩ := u
    replace hw : QK r11 i_t_place_12 i_t_fault_13 := hw
    clear hq
    subst eQ
    obtain ⟨hP1, hD1⟩ := hB
    rw [ht] at hP1
    obtain ⟨hP, hD⟩ := va_join (wr := [(a_t_read, .inr (2, [w_t_read_reaches, .int i_t_read_span, .int i_t_read_sum, w_t_read_odds, w_t_read_bank, w_t_read_mill, w_t_read_hung, w_t_read_water]))]) (w1 := [(a_t, .inr (3, [.ref a_t_tape, .int i_t_size, .int i_t_place_12, .int i_t_fault_13, .ref a_t_read])), (a_t_tape, .inl (cyI, 120, .inl f_t_tape))]) hP hD [1, 2] [0] rfl rfl (by decide) (by decide) hk1 hFc hP1 hD1
    clear hPc hDc hFc hk1 hz1 hP1 hD1 ht hvm
    generalize H1 = H at hP hS ⊢
    replace hP : va_P D vwCl [(a_t_read, .inr (2, [w_t_read_reaches, .int i_t_read_span, .int i_t_read_sum, w_t_read_odds, w_t_read_bank, w_t_read_mill, w_t_read_hung, w_t_read_water])), (a_t, .inr (3, [.ref a_t_tape, .int i_t_size, .int i_t_place_12, .int i_t_fault_13, .ref a_t_read])), (a_t_tape, .inl (cyI, 120, .inl f_t_tape))] H := hP
    replace hD : va_D A [(a_t_read, .inr (2, [w_t_read_reaches, .int i_t_read_span, .int i_t_read_sum, w_t_read_odds, w_t_read_bank, w_t_read_mill, w_t_read_hung, w_t_read_water])), (a_t, .inr (3, [.ref a_t_tape, .int i_t_size, .int i_t_place_12, .int i_t_fault_13, .ref a_t_read])), (a_t_tape, .inl (cyI, 120, .inl f_t_tape))] := hD
    refine va_mmin hx hb (hml.trans hl.1.symm) hown (hts _ (List.mem_of_getElem? (i := 2) rfl)) (hts _ (List.mem_of_getElem? (i := 3) rfl)) (hts _ (List.mem_of_getElem? (i := 4) rfl)) (hts _ (List.mem_of_getElem? (i := 5) rfl)) (Nat.le_of_ble_eq_true rfl) (Nat.le_of_ble_eq_true rfl) (Nat.zero_le _) (Nat.zero_le _) dX4_readSpanOrSum_28 ?_
    refine va_mmax hx hb (hml.trans hl.1.symm) hown (hts _ (List.mem_of_getElem? (i := 6) rfl)) (hts _ (List.mem_of_getElem? (i := 7) rfl)) (hts _ (List.mem_of_getElem? (i := 4) rfl)) (hts _ (List.mem_of_getElem? (i := 8) rfl)) (Nat.le_of_ble_eq_true rfl) (Nat.le_of_ble_eq_true rfl) (Nat.zero_le _) (Nat.zero_le _) dX4_readSpanOrSum_31 ?_
    refine lv_topi (fun y14 ey14 => ?_)
    replace hw := hw y14 ey14
    refine va_put (D := D) (ci := 2) (v := .int y14) (ty := .int) (C := RX3) (T := TX3) (N := 8) hx hb hts inX4_readSpanOrSum_X3 tyX3 tyX3_ok nmX3 hown hK hP hD hS 0 rfl rfl 1 (by decide) (hts _ (List.mem_of_getElem? (i := 9) rfl)) (fun _ h9 => h9) rfl (tyX3_ok 1 (by decide)) rfl rfl (Nat.le_of_ble_eq_true rfl) dX4_readSpanOrSum_34 (fun H locs hP hD hS => ?_)
    replace hP : va_P D vwCl [(a_t_read, .inr (2, [w_t_read_reaches, .int y14, .int i_t_read_sum, w_t_read_odds, w_t_read_bank, w_t_read_mill, w_t_read_hung, w_t_read_water])), (a_t, .inr (3, [.ref a_t_tape, .int i_t_size, .int i_t_place_12, .int i_t_fault_13, .ref a_t_read])), (a_t_tape, .inl (cyI, 120, .inl f_t_tape))] H := hP
    replace hD : va_D A [(a_t_read, .inr (2, [w_t_read_reaches, .int y14, .int i_t_read_sum, w_t_read_odds, w_t_read_bank, w_t_read_mill, w_t_read_hung, w_t_read_water])), (a_t, .inr (3, [.ref a_t_tape, .int i_t_size, .int i_t_place_12, .int i_t_fault_13, .ref a_t_read])), (a_t_tape, .inl (cyI, 120, .inl f_t_tape))] := hD
    refine lv_goto (tgt := 60) hx hb dX4_readSpanOrSum_37 (by decide) ?_
    have hPj := hP.sub (ws' := [(a_t, .inr (3, [.ref a_t_tape, .int i_t_size, .int i_t_place_12, .int i_t_fault_13, .ref a_t_read])), (a_t_tape, .inl (cyI, 120, .inl f_t_tape)), (a_t_read, .inr (2, [w_t_read_reaches, .int y14, .int i_t_read_sum, w_t_read_odds, w_t_read_bank, w_t_read_mill, w_t_read_hung, w_t_read_water]))]) [1, 2, 0] rfl
    have hDj := hD.sub (ws' := [(a_t, .inr (3, [.ref a_t_tape, .int i_t_size, .int i_t_place_12, .int i_t_fault_13, .ref a_t_read])), (a_t_tape, .inl (cyI, 120, .inl f_t_tape)), (a_t_read, .inr (2, [w_t_read_reaches, .int y14, .int i_t_read_sum, w_t_read_odds, w_t_read_bank, w_t_read_mill, w_t_read_hung, w_t_read_water]))]) [1, 2, 0] (by decide) rfl
    exact W.vret hx hb hr (fun t ht hW => ⟨⟨(i_t_place_12, i_t_fault_13, y14, i_t_read_sum), rfl, hw, post_mk ht hPj hDj⟩, hS.F ht⟩) hS.2.2 dX4_readSpanOrSum_60 hlocks
set_option maxHeartbeats 8000000 in
set_option maxRecDepth 100000 in
theorem MX2_needs_X4 (l : Launch) (D : va_G) (cyI cyZ cyC : ClassId) (ro : va_W) (ce : Nat → CT) (cin : Nat → Prop) (ad : AD) (a_t a_t_tape : Nat) (w_t_read : Value) (sz : Nat) (x1 : Int32) (i_t_size : Int32) (i_t_place : Int32) (i_t_fault : Int32) (f_t_tape : Nat → Int32) (Q : Int32 → Int32 → Prop)  (hw : WX2_needs_X4 x1 i_t_size i_t_place i_t_fault f_t_tape Q) : Met l yX2_needs wsX2_needs ({ frames := 2, cells := 0, slots := 0, locals := 41 }) (va_Pc [.ref a_t, .int x1] (PRE D cyI cyZ cyC ro ce cin ad (SX2_needs_X4 cyI cyZ cyC a_t a_t_tape w_t_read  i_t_size i_t_place i_t_fault f_t_tape) sz)) (va_Qv (fun (u : Int32 × Int32) => Q u.1 u.2) (fun (u : Int32 × Int32) (t : State) => POST D (va_A (SX2_needs_X4 cyI cyZ cyC a_t a_t_tape w_t_read  i_t_size i_t_place i_t_fault f_t_tape) sz) (SX2_needs_X4 cyI cyZ cyC a_t a_t_tape w_t_read  i_t_size u.1 u.2 f_t_tape) t) (va_A (SX2_needs_X4 cyI cyZ cyC a_t a_t_tape w_t_read  i_t_size i_t_place i_t_fault f_t_tape) sz)) 0 0 (va_A (SX2_needs_X4 cyI cyZ cyC a_t a_t_tape w_t_read  i_t_size i_t_place i_t_fault f_t_tape) sz) := by
  refine Met.ofW (cc := cX2_needs) (maxL := 2) (ret := none) (by decide +kernel) rfl ?_
  intro p e s m args below meth c s₁ B hml hv
  obtain ⟨rfl, hsz, hP, hK, hD0, hX⟩ := hv
  have hx := B.exec
  have hb := B.bytes
  have hr := B.returns
  have hts := atoms_spec (ws := wsX2_needs) B.pre
  have hown : s.vm.findClass RX2 = some m.cls := findClass_of_methodNamed B.named
  have hlocks := B.notSynchronized
  clear B
  subst hsz
  have hD := hD0.self (sz := s.heap.size)
  clear hD0
  generalize hAe : va_A (SX2_needs_X4 cyI cyZ cyC a_t a_t_tape w_t_read  i_t_size i_t_place i_t_fault f_t_tape) s.heap.size = A at hD hX ⊢
  have hA : ∀ q : Nat, s.heap.size ≤ q → A q := fun q h => by rw [← hAe]; exact Or.inr h
  clear hAe
  obtain ⟨H, hH⟩ : ∃ H, H = s.heap := ⟨_, rfl⟩
  rw [← hH] at hP ⊢
  have hS : va_S A s.heap H [] := by rw [hH]; exact va_S.rf
  clear hH
  replace hP : va_P D vwCl [(a_t, .inr (3, [.ref a_t_tape, .int i_t_size, .int i_t_place, .int i_t_fault, w_t_read])), (a_t_tape, .inl (cyI, 120, .inl f_t_tape))] H := hP
  replace hD : va_D A [(a_t, .inr (3, [.ref a_t_tape, .int i_t_size, .int i_t_place, .int i_t_fault, w_t_read])), (a_t_tape, .inl (cyI, 120, .inl f_t_tape))] := hD
  have hl := lv_entry ([.ref a_t, .int x1]) (n := 2) (Nat.le_of_ble_eq_true rfl)
  rw [lg_entry_eq]
  generalize (lg_sl ([.ref a_t, .int x1]) ++ List.replicate (2 - (lg_sl ([.ref a_t, .int x1])).length) Slot.unset).toArray = ls at hl ⊢
  replace hl : lv_has ls 2 [(0, .ref a_t), (1, .int x1)] := hl
  unfold WX2_needs_X4 at hw
  refine lv_aload_n hx hb dX2_needs_0 rfl (lv_at hl 0 rfl) ?_
  refine lv_iload_n hx hb dX2_needs_1 rfl (lv_at hl 1 rfl) ?_
  obtain ⟨QK, eQ, hq⟩ := genq (P := WX2_takes_X4 x1 i_t_size i_t_place i_t_fault f_t_tape) hw
  clear hw
  have hPc := hP.sub (ws' := [(a_t, .inr (3, [.ref a_t_tape, .int i_t_size, .int i_t_place, .int i_t_fault, w_t_read])), (a_t_tape, .inl (cyI, 120, .inl f_t_tape))]) [0, 1] rfl
  have hDc := hD.sub (ws' := [(a_t, .inr (3, [.ref a_t_tape, .int i_t_size, .int i_t_place, .int i_t_fault, w_t_read])), (a_t_tape, .inl (cyI, 120, .inl f_t_tape))]) [0, 1] (by decide) rfl
  have hFc := va_free (wc := [(a_t, .inr (3, [.ref a_t_tape, .int i_t_size, .int i_t_place, .int i_t_fault, w_t_read])), (a_t_tape, .inl (cyI, 120, .inl f_t_tape))]) hD hS hA [0, 1] rfl
  refine va_calli (va_runU (As := [.int x1]) (rest := []) ⟨hx, hb, hml, hown, hts⟩ (MX2_takes_X4 l D cyI cyZ cyC ro ce cin ad a_t a_t_tape  (w_t_read) H.size x1 i_t_size i_t_place i_t_fault f_t_tape QK  hq) (va_cwU 1 hts gX2_needs_X2_takes_u48X4 rfl rfl rfl rfl dmX2_takesu ⟨Nat.le_of_ble_eq_true rfl, Nat.le_of_ble_eq_true rfl⟩) ⟨pre_bl, va_recv hK hPc (ci := 3) (q0 := 0) rfl rfl, fun U hU hW => ⟨rfl, pre_of hX hS hK hPc hDc hFc hU hW⟩⟩ rfl rfl hl.1 rfl (lv_room (Nat.le_of_ble_eq_true rfl)) dX2_needs_2 ⟨Nat.zero_le _, Nat.zero_le _⟩) hS (fun q _ h => hFc q h) hFc (fun r1 u t H1 locs ht hvm hw hB hz1 hk1 hS => ?_)
  obtain ⟨i_t_place_2, rfl⟩ : ∃ z, z = u := ⟨u, rfl⟩
  replace hw : QK r1 i_t_place_2 := hw
  clear hq
  subst eQ
  obtain ⟨hP1, hD1⟩ := hB
  rw [ht] at hP1
  obtain ⟨hP, hD⟩ := va_join (wr := []) (w1 := [(a_t, .inr (3, [.ref a_t_tape, .int i_t_size, .int i_t_place_2, .int i_t_fault, w_t_read])), (a_t_tape, .inl (cyI, 120, .inl f_t_tape))]) hP hD [0, 1] [] rfl rfl (by decide) (by decide) hk1 hFc hP1 hD1
  clear hPc hDc hFc hk1 hz1 hP1 hD1 ht hvm
  generalize H1 = H at hP hS ⊢
  replace hP : va_P D vwCl [(a_t, .inr (3, [.ref a_t_tape, .int i_t_size, .int i_t_place_2, .int i_t_fault, w_t_read])), (a_t_tape, .inl (cyI, 120, .inl f_t_tape))] H := hP
  replace hD : va_D A [(a_t, .inr (3, [.ref a_t_tape, .int i_t_size, .int i_t_place_2, .int i_t_fault, w_t_read])), (a_t_tape, .inl (cyI, 120, .inl f_t_tape))] := hD
  refine lv_if_ne (tgt := 12) hx hb dX2_needs_5 (by decide) (fun c3 => ?_) (fun c3 => ?_)
  · replace hw := hw.2 c3
    exact W.vret hx hb hr (fun t ht hW => ⟨⟨(i_t_place_2, i_t_fault), rfl, hw, post_mk ht hP hD⟩, hS.F ht⟩) hS.2.2 dX2_needs_12 hlocks
  · replace hw := hw.1 c3
    refine lv_aload_n hx hb dX2_needs_8 rfl (lv_at hl 0 rfl) ?_
    obtain ⟨QK, eQ, hq⟩ := genq (P := WX2_fail_X4 i_t_place_2 i_t_fault) hw
    clear hw
    have hPc := hP.sub (ws' := [(a_t, .inr (3, [.ref a_t_tape, .int i_t_size, .int i_t_place_2, .int i_t_fault, w_t_read]))]) [0] rfl
    have hDc := hD.sub (ws' := [(a_t, .inr (3, [.ref a_t_tape, .int i_t_size, .int i_t_place_2, .int i_t_fault, w_t_read]))]) [0] (by decide) rfl
    have hFc := va_free (wc := [(a_t, .inr (3, [.ref a_t_tape, .int i_t_size, .int i_t_place_2, .int i_t_fault, w_t_read]))]) hD hS hA [0] rfl
    refine va_callv (va_runU (As := []) (rest := []) ⟨hx, hb, hml, hown, hts⟩ (MX2_fail_X4 l D cyI cyZ cyC ro ce cin ad a_t  (.ref a_t_tape) (.int i_t_size) (w_t_read) H.size i_t_place_2 i_t_fault QK  hq) (va_cwU 0 hts gX2_needs_X2_fail_u52X4 rfl rfl rfl rfl dmX2_failu ⟨Nat.le_of_ble_eq_true rfl, Nat.le_of_ble_eq_true rfl⟩) ⟨pre_bl, va_recv hK hPc (ci := 3) (q0 := 0) rfl rfl, fun U hU hW => ⟨rfl, pre_of hX hS hK hPc hDc hFc hU hW⟩⟩ rfl rfl hl.1 rfl (lv_room (Nat.le_of_ble_eq_true rfl)) dX2_needs_9 ⟨Nat.zero_le _, Nat.zero_le _⟩) hS (fun q _ h => hFc q h) hFc (fun u t H1 locs ht hvm hw hB hz1 hk1 hS => ?_)
    obtain ⟨i_t_fault_4, rfl⟩ : ∃ z, z = u := ⟨u, rfl⟩
    replace hw : QK i_t_fault_4 := hw
    clear hq
    subst eQ
    obtain ⟨hP1, hD1⟩ := hB
    rw [ht] at hP1
    obtain ⟨hP, hD⟩ := va_join (wr := [(a_t_tape, .inl (cyI, 120, .inl f_t_tape))]) (w1 := [(a_t, .inr (3, [.ref a_t_tape, .int i_t_size, .int i_t_place_2, .int i_t_fault_4, w_t_read]))]) hP hD [0] [1] rfl rfl (by decide) (by decide) hk1 hFc hP1 hD1
    clear hPc hDc hFc hk1 hz1 hP1 hD1 ht hvm
    generalize H1 = H at hP hS ⊢
    replace hP : va_P D vwCl [(a_t_tape, .inl (cyI, 120, .inl f_t_tape)), (a_t, .inr (3, [.ref a_t_tape, .int i_t_size, .int i_t_place_2, .int i_t_fault_4, w_t_read]))] H := hP
    replace hD : va_D A [(a_t_tape, .inl (cyI, 120, .inl f_t_tape)), (a_t, .inr (3, [.ref a_t_tape, .int i_t_size, .int i_t_place_2, .int i_t_fault_4, w_t_read]))] := hD
    have hPj := hP.sub (ws' := [(a_t, .inr (3, [.ref a_t_tape, .int i_t_size, .int i_t_place_2, .int i_t_fault_4, w_t_read])), (a_t_tape, .inl (cyI, 120, .inl f_t_tape))]) [1, 0] rfl
    have hDj := hD.sub (ws' := [(a_t, .inr (3, [.ref a_t_tape, .int i_t_size, .int i_t_place_2, .int i_t_fault_4, w_t_read])), (a_t_tape, .inl (cyI, 120, .inl f_t_tape))]) [1, 0] (by decide) rfl
    exact W.vret hx hb hr (fun t ht hW => ⟨⟨(i_t_place_2, i_t_fault_4), rfl, hw, post_mk ht hPj hDj⟩, hS.F ht⟩) hS.2.2 dX2_needs_12 hlocks
set_option maxHeartbeats 8000000 in
set_option maxRecDepth 100000 in
theorem MX3_addReach (l : Launch) (D : va_G) (cyI cyZ cyC : ClassId) (ro : va_W) (ce : Nat → CT) (cin : Nat → Prop) (ad : AD) (a_t a_t_bank a_t_mill a_t_hung a_t_water a_t_water_level a_t_water_boards a_t_water_way : Nat) (w_t_span w_t_sum w_t_odds w_t_water_beforeRain w_t_water_hour w_t_water_rainBefore w_t_water_next : Value) (sz : Nat) (x1 : Int32) (x2 : Int32) (x3 : Int32) (i_t_reaches : Int32) (f_t_bank : Nat → Int32) (f_t_mill : Nat → Int32) (f_t_hung : Nat → Int32) (f_t_water_level : Nat → Int32) (f_t_water_boards : Nat → Int32) (f_t_water_way : Nat → Int32) (Q : Int32 → (Nat → Int32) → (Nat → Int32) → (Nat → Int32) → (Nat → Int32) → (Nat → Int32) → (Nat → Int32) → Prop)  (hw : WX3_addReach x1 x2 x3 i_t_reaches f_t_bank f_t_mill f_t_hung f_t_water_level f_t_water_boards f_t_water_way Q) : Met l yX3_addReach wsX3_addReach ({ frames := 1, cells := 0, slots := 0, locals := 40 }) (va_Pc [.ref a_t, .int x1, .int x2, .int x3] (PRE D cyI cyZ cyC ro ce cin ad (SX3_addReach cyI cyZ cyC a_t a_t_bank a_t_mill a_t_hung a_t_water a_t_water_level a_t_water_boards a_t_water_way w_t_span w_t_sum w_t_odds w_t_water_beforeRain w_t_water_hour w_t_water_rainBefore w_t_water_next  i_t_reaches f_t_bank f_t_mill f_t_hung f_t_water_level f_t_water_boards f_t_water_way) sz)) (va_Qv (fun (u : Int32 × (Nat → Int32) × (Nat → Int32) × (Nat → Int32) × (Nat → Int32) × (Nat → Int32) × (Nat → Int32)) => Q u.1 u.2.1 u.2.2.1 u.2.2.2.1 u.2.2.2.2.1 u.2.2.2.2.2.1 u.2.2.2.2.2.2) (fun (u : Int32 × (Nat → Int32) × (Nat → Int32) × (Nat → Int32) × (Nat → Int32) × (Nat → Int32) × (Nat → Int32)) (t : State) => POST D (va_A (SX3_addReach cyI cyZ cyC a_t a_t_bank a_t_mill a_t_hung a_t_water a_t_water_level a_t_water_boards a_t_water_way w_t_span w_t_sum w_t_odds w_t_water_beforeRain w_t_water_hour w_t_water_rainBefore w_t_water_next  i_t_reaches f_t_bank f_t_mill f_t_hung f_t_water_level f_t_water_boards f_t_water_way) sz) (SX3_addReach cyI cyZ cyC a_t a_t_bank a_t_mill a_t_hung a_t_water a_t_water_level a_t_water_boards a_t_water_way w_t_span w_t_sum w_t_odds w_t_water_beforeRain w_t_water_hour w_t_water_rainBefore w_t_water_next  u.1 u.2.1 u.2.2.1 u.2.2.2.1 u.2.2.2.2.1 u.2.2.2.2.2.1 u.2.2.2.2.2.2) t) (va_A (SX3_addReach cyI cyZ cyC a_t a_t_bank a_t_mill a_t_hung a_t_water a_t_water_level a_t_water_boards a_t_water_way w_t_span w_t_sum w_t_odds w_t_water_beforeRain w_t_water_hour w_t_water_rainBefore w_t_water_next  i_t_reaches f_t_bank f_t_mill f_t_hung f_t_water_level f_t_water_boards f_t_water_way) sz)) 0 0 (va_A (SX3_addReach cyI cyZ cyC a_t a_t_bank a_t_mill a_t_hung a_t_water a_t_water_level a_t_water_boards a_t_water_way w_t_span w_t_sum w_t_odds w_t_water_beforeRain w_t_water_hour w_t_water_rainBefore w_t_water_next  i_t_reaches f_t_bank f_t_mill f_t_hung f_t_water_level f_t_water_boards f_t_water_way) sz) := by
  refine Met.ofW (cc := cX3_addReach) (maxL := 5) (ret := none) (by decide +kernel) rfl ?_
  intro p e s m args below meth c s₁ B hml hv
  obtain ⟨rfl, hsz, hP, hK, hD0, hX⟩ := hv
  have hx := B.exec
  have hb := B.bytes
  have hr := B.returns
  have hts := atoms_spec (ws := wsX3_addReach) B.pre
  have hown : s.vm.findClass RX3 = some m.cls := findClass_of_methodNamed B.named
  have hlocks := B.notSynchronized
  clear B
  subst hsz
  have hD := hD0.self (sz := s.heap.size)
  clear hD0
  generalize hAe : va_A (SX3_addReach cyI cyZ cyC a_t a_t_bank a_t_mill a_t_hung a_t_water a_t_water_level a_t_water_boards a_t_water_way w_t_span w_t_sum w_t_odds w_t_water_beforeRain w_t_water_hour w_t_water_rainBefore w_t_water_next  i_t_reaches f_t_bank f_t_mill f_t_hung f_t_water_level f_t_water_boards f_t_water_way) s.heap.size = A at hD hX ⊢
  have hA : ∀ q : Nat, s.heap.size ≤ q → A q := fun q h => by rw [← hAe]; exact Or.inr h
  clear hAe
  obtain ⟨H, hH⟩ : ∃ H, H = s.heap := ⟨_, rfl⟩
  rw [← hH] at hP ⊢
  have hS : va_S A s.heap H [] := by rw [hH]; exact va_S.rf
  clear hH
  replace hP : va_P D vwCl [(a_t, .inr (2, [.int i_t_reaches, w_t_span, w_t_sum, w_t_odds, .ref a_t_bank, .ref a_t_mill, .ref a_t_hung, .ref a_t_water])), (a_t_bank, .inl (cyI, 3, .inl f_t_bank)), (a_t_mill, .inl (cyI, 3, .inl f_t_mill)), (a_t_hung, .inl (cyI, 3, .inl f_t_hung)), (a_t_water, .inr (7, [.ref a_t_water_level, .ref a_t_water_boards, .ref a_t_water_way, w_t_water_beforeRain, w_t_water_hour, w_t_water_rainBefore, w_t_water_next])), (a_t_water_level, .inl (cyI, 3, .inl f_t_water_level)), (a_t_water_boards, .inl (cyI, 3, .inl f_t_water_boards)), (a_t_water_way, .inl (cyI, 3, .inl f_t_water_way))] H := hP
  replace hD : va_D A [(a_t, .inr (2, [.int i_t_reaches, w_t_span, w_t_sum, w_t_odds, .ref a_t_bank, .ref a_t_mill, .ref a_t_hung, .ref a_t_water])), (a_t_bank, .inl (cyI, 3, .inl f_t_bank)), (a_t_mill, .inl (cyI, 3, .inl f_t_mill)), (a_t_hung, .inl (cyI, 3, .inl f_t_hung)), (a_t_water, .inr (7, [.ref a_t_water_level, .ref a_t_water_boards, .ref a_t_water_way, w_t_water_beforeRain, w_t_water_hour, w_t_water_rainBefore, w_t_water_next])), (a_t_water_level, .inl (cyI, 3, .inl f_t_water_level)), (a_t_water_boards, .inl (cyI, 3, .inl f_t_water_boards)), (a_t_water_way, .inl (cyI, 3, .inl f_t_water_way))] := hD
  have hl := lv_entry ([.ref a_t, .int x1, .int x2, .int x3]) (n := 5) (Nat.le_of_ble_eq_true rfl)
  rw [lg_entry_eq]
  generalize (lg_sl ([.ref a_t, .int x1, .int x2, .int x3]) ++ List.replicate (5 - (lg_sl ([.ref a_t, .int x1, .int x2, .int x3])).length) Slot.unset).toArray = ls at hl ⊢
  replace hl : lv_has ls 5 [(0, .ref a_t), (1, .int x1), (2, .int x2), (3, .int x3)] := hl
  unfold WX3_addReach at hw
  refine lv_aload_n hx hb dX3_addReach_0 rfl (lv_at hl 0 rfl) ?_
  refine va_get (D := D) (ci := 2) (v := .int i_t_reaches) (C := RX3) (T := TX3) (N := 8) hx hb hts inX3_addReach_X3 hown hK hP 0 rfl rfl 0 (by decide) (hts _ (List.mem_of_getElem? (i := 1) rfl)) (fun _ h9 => h9) rfl dX3_addReach_1 ?_
  refine lv_istore (lv' := [(4, .int i_t_reaches), (0, .ref a_t), (1, .int x1), (2, .int x2), (3, .int x3)]) hx hb dX3_addReach_4 hl (by decide) rfl (fun ls hl => ?_)
  refine lv_iload hx hb dX3_addReach_6 (lv_at hl 0 rfl) ?_
  refine lv_if_lt (tgt := 17) hx hb dX3_addReach_8 (by decide) (fun c1 => ?_) (fun c1 => ?_)
  · replace hw := hw.1 c1
    exact W.vret hx hb hr (fun t ht hW => ⟨⟨(i_t_reaches, f_t_bank, f_t_mill, f_t_hung, f_t_water_level, f_t_water_boards, f_t_water_way), rfl, hw, post_mk ht hP hD⟩, hS.F ht⟩) hS.2.2 dX3_addReach_17 hlocks
  · replace hw := hw.2 c1
    refine lv_iload hx hb dX3_addReach_11 (lv_at hl 0 rfl) ?_
    refine lv_iconst (v := 3) hx hb dX3_addReach_13 (by decide) ?_
    refine lv_icmp_lt (tgt := 18) hx hb dX3_addReach_14 (by decide) (fun c2 => ?_) (fun c2 => ?_)
    · replace hw := hw.1 c2
      refine lv_aload_n hx hb dX3_addReach_18 rfl (lv_at hl 1 rfl) ?_
      refine va_get (D := D) (ci := 2) (v := .ref a_t_bank) (C := RX3) (T := TX3) (N := 8) hx hb hts inX3_addReach_X3 hown hK hP 0 rfl rfl 4 (by decide) (hts _ (List.mem_of_getElem? (i := 2) rfl)) (fun _ h9 => h9) rfl dX3_addReach_19 ?_
      refine lv_iload hx hb dX3_addReach_22 (lv_at hl 0 rfl) ?_
      refine lv_iload_n hx hb dX3_addReach_24 rfl (lv_at hl 2 rfl) ?_
      have h3 := hw.1
      replace hw := hw.2
      refine va_iast hx hb hK hP hD hS 1 0 rfl rfl h3 dX3_addReach_25 (fun H locs hP hD hS => ?_)
      replace hP : va_P D vwCl [(a_t, .inr (2, [.int i_t_reaches, w_t_span, w_t_sum, w_t_odds, .ref a_t_bank, .ref a_t_mill, .ref a_t_hung, .ref a_t_water])), (a_t_bank, .inl (cyI, 3, .inl (upd f_t_bank i_t_reaches.toNatClampNeg x1))), (a_t_mill, .inl (cyI, 3, .inl f_t_mill)), (a_t_hung, .inl (cyI, 3, .inl f_t_hung)), (a_t_water, .inr (7, [.ref a_t_water_level, .ref a_t_water_boards, .ref a_t_water_way, w_t_water_beforeRain, w_t_water_hour, w_t_water_rainBefore, w_t_water_next])), (a_t_water_level, .inl (cyI, 3, .inl f_t_water_level)), (a_t_water_boards, .inl (cyI, 3, .inl f_t_water_boards)), (a_t_water_way, .inl (cyI, 3, .inl f_t_water_way))] H := hP
      replace hD : va_D A [(a_t, .inr (2, [.int i_t_reaches, w_t_span, w_t_sum, w_t_odds, .ref a_t_bank, .ref a_t_mill, .ref a_t_hung, .ref a_t_water])), (a_t_bank, .inl (cyI, 3, .inl (upd f_t_bank i_t_reaches.toNatClampNeg x1))), (a_t_mill, .inl (cyI, 3, .inl f_t_mill)), (a_t_hung, .inl (cyI, 3, .inl f_t_hung)), (a_t_water, .inr (7, [.ref a_t_water_level, .ref a_t_water_boards, .ref a_t_water_way, w_t_water_beforeRain, w_t_water_hour, w_t_water_rainBefore, w_t_water_next])), (a_t_water_level, .inl (cyI, 3, .inl f_t_water_level)), (a_t_water_boards, .inl (cyI, 3, .inl f_t_water_boards)), (a_t_water_way, .inl (cyI, 3, .inl f_t_water_way))] := hD
      refine lv_aload_n hx hb dX3_addReach_26 rfl (lv_at hl 1 rfl) ?_
      refine va_get (D := D) (ci := 2) (v := .ref a_t_mill) (C := RX3) (T := TX3) (N := 8) hx hb hts inX3_addReach_X3 hown hK hP 0 rfl rfl 5 (by decide) (hts _ (List.mem_of_getElem? (i := 3) rfl)) (fun _ h9 => h9) rfl dX3_addReach_27 ?_
      refine lv_iload hx hb dX3_addReach_30 (lv_at hl 0 rfl) ?_
      refine lv_iload_n hx hb dX3_addReach_32 rfl (lv_at hl 3 rfl) ?_
      have h4 := hw.1
      replace hw := hw.2
      refine va_iast hx hb hK hP hD hS 2 0 rfl rfl h4 dX3_addReach_33 (fun H locs hP hD hS => ?_)
      replace hP : va_P D vwCl [(a_t, .inr (2, [.int i_t_reaches, w_t_span, w_t_sum, w_t_odds, .ref a_t_bank, .ref a_t_mill, .ref a_t_hung, .ref a_t_water])), (a_t_bank, .inl (cyI, 3, .inl (upd f_t_bank i_t_reaches.toNatClampNeg x1))), (a_t_mill, .inl (cyI, 3, .inl (upd f_t_mill i_t_reaches.toNatClampNeg x2))), (a_t_hung, .inl (cyI, 3, .inl f_t_hung)), (a_t_water, .inr (7, [.ref a_t_water_level, .ref a_t_water_boards, .ref a_t_water_way, w_t_water_beforeRain, w_t_water_hour, w_t_water_rainBefore, w_t_water_next])), (a_t_water_level, .inl (cyI, 3, .inl f_t_water_level)), (a_t_water_boards, .inl (cyI, 3, .inl f_t_water_boards)), (a_t_water_way, .inl (cyI, 3, .inl f_t_water_way))] H := hP
      replace hD : va_D A [(a_t, .inr (2, [.int i_t_reaches, w_t_span, w_t_sum, w_t_odds, .ref a_t_bank, .ref a_t_mill, .ref a_t_hung, .ref a_t_water])), (a_t_bank, .inl (cyI, 3, .inl (upd f_t_bank i_t_reaches.toNatClampNeg x1))), (a_t_mill, .inl (cyI, 3, .inl (upd f_t_mill i_t_reaches.toNatClampNeg x2))), (a_t_hung, .inl (cyI, 3, .inl f_t_hung)), (a_t_water, .inr (7, [.ref a_t_water_level, .ref a_t_water_boards, .ref a_t_water_way, w_t_water_beforeRain, w_t_water_hour, w_t_water_rainBefore, w_t_water_next])), (a_t_water_level, .inl (cyI, 3, .inl f_t_water_level)), (a_t_water_boards, .inl (cyI, 3, .inl f_t_water_boards)), (a_t_water_way, .inl (cyI, 3, .inl f_t_water_way))] := hD
      refine lv_aload_n hx hb dX3_addReach_34 rfl (lv_at hl 1 rfl) ?_
      refine va_get (D := D) (ci := 2) (v := .ref a_t_hung) (C := RX3) (T := TX3) (N := 8) hx hb hts inX3_addReach_X3 hown hK hP 0 rfl rfl 6 (by decide) (hts _ (List.mem_of_getElem? (i := 4) rfl)) (fun _ h9 => h9) rfl dX3_addReach_35 ?_
      refine lv_iload hx hb dX3_addReach_38 (lv_at hl 0 rfl) ?_
      refine lv_iconst (v := (-1)) hx hb dX3_addReach_40 (by decide) ?_
      have h5 := hw.1
      replace hw := hw.2
      refine va_iast hx hb hK hP hD hS 3 0 rfl rfl h5 dX3_addReach_41 (fun H locs hP hD hS => ?_)
      replace hP : va_P D vwCl [(a_t, .inr (2, [.int i_t_reaches, w_t_span, w_t_sum, w_t_odds, .ref a_t_bank, .ref a_t_mill, .ref a_t_hung, .ref a_t_water])), (a_t_bank, .inl (cyI, 3, .inl (upd f_t_bank i_t_reaches.toNatClampNeg x1))), (a_t_mill, .inl (cyI, 3, .inl (upd f_t_mill i_t_reaches.toNatClampNeg x2))), (a_t_hung, .inl (cyI, 3, .inl (upd f_t_hung i_t_reaches.toNatClampNeg (-1)))), (a_t_water, .inr (7, [.ref a_t_water_level, .ref a_t_water_boards, .ref a_t_water_way, w_t_water_beforeRain, w_t_water_hour, w_t_water_rainBefore, w_t_water_next])), (a_t_water_level, .inl (cyI, 3, .inl f_t_water_level)), (a_t_water_boards, .inl (cyI, 3, .inl f_t_water_boards)), (a_t_water_way, .inl (cyI, 3, .inl f_t_water_way))] H := hP
      replace hD : va_D A [(a_t, .inr (2, [.int i_t_reaches, w_t_span, w_t_sum, w_t_odds, .ref a_t_bank, .ref a_t_mill, .ref a_t_hung, .ref a_t_water])), (a_t_bank, .inl (cyI, 3, .inl (upd f_t_bank i_t_reaches.toNatClampNeg x1))), (a_t_mill, .inl (cyI, 3, .inl (upd f_t_mill i_t_reaches.toNatClampNeg x2))), (a_t_hung, .inl (cyI, 3, .inl (upd f_t_hung i_t_reaches.toNatClampNeg (-1)))), (a_t_water, .inr (7, [.ref a_t_water_level, .ref a_t_water_boards, .ref a_t_water_way, w_t_water_beforeRain, w_t_water_hour, w_t_water_rainBefore, w_t_water_next])), (a_t_water_level, .inl (cyI, 3, .inl f_t_water_level)), (a_t_water_boards, .inl (cyI, 3, .inl f_t_water_boards)), (a_t_water_way, .inl (cyI, 3, .inl f_t_water_way))] := hD
      refine lv_aload_n hx hb dX3_addReach_42 rfl (lv_at hl 1 rfl) ?_
      refine va_get (D := D) (ci := 2) (v := .ref a_t_water) (C := RX3) (T := TX3) (N := 8) hx hb hts inX3_addReach_X3 hown hK hP 0 rfl rfl 7 (by decide) (hts _ (List.mem_of_getElem? (i := 5) rfl)) (fun _ h9 => h9) rfl dX3_addReach_43 ?_
      refine va_get (D := D) (ci := 7) (v := .ref a_t_water_level) (C := RX8) (T := TX8) (N := 7) hx hb hts inX3_addReach_X8 hown hK hP 4 rfl rfl 0 (by decide) (hts _ (List.mem_of_getElem? (i := 6) rfl)) (fun _ h9 => h9) rfl dX3_addReach_46 ?_
      refine lv_iload hx hb dX3_addReach_49 (lv_at hl 0 rfl) ?_
      refine lv_iload_n hx hb dX3_addReach_51 rfl (lv_at hl 4 rfl) ?_
      refine lv_iload_n hx hb dX3_addReach_52 rfl (lv_at hl 2 rfl) ?_
      refine va_mmin hx hb (hml.trans hl.1.symm) hown (hts _ (List.mem_of_getElem? (i := 7) rfl)) (hts _ (List.mem_of_getElem? (i := 8) rfl)) (hts _ (List.mem_of_getElem? (i := 9) rfl)) (hts _ (List.mem_of_getElem? (i := 10) rfl)) (Nat.le_of_ble_eq_true rfl) (Nat.le_of_ble_eq_true rfl) (Nat.zero_le _) (Nat.zero_le _) dX3_addReach_53 ?_
      refine lv_topi (fun y6 ey6 => ?_)
      replace hw := hw y6 ey6
      have h7 := hw.1
      replace hw := hw.2
      refine va_iast hx hb hK hP hD hS 5 0 rfl rfl h7 dX3_addReach_56 (fun H locs hP hD hS => ?_)
      replace hP : va_P D vwCl [(a_t, .inr (2, [.int i_t_reaches, w_t_span, w_t_sum, w_t_odds, .ref a_t_bank, .ref a_t_mill, .ref a_t_hung, .ref a_t_water])), (a_t_bank, .inl (cyI, 3, .inl (upd f_t_bank i_t_reaches.toNatClampNeg x1))), (a_t_mill, .inl (cyI, 3, .inl (upd f_t_mill i_t_reaches.toNatClampNeg x2))), (a_t_hung, .inl (cyI, 3, .inl (upd f_t_hung i_t_reaches.toNatClampNeg (-1)))), (a_t_water, .inr (7, [.ref a_t_water_level, .ref a_t_water_boards, .ref a_t_water_way, w_t_water_beforeRain, w_t_water_hour, w_t_water_rainBefore, w_t_water_next])), (a_t_water_level, .inl (cyI, 3, .inl (upd f_t_water_level i_t_reaches.toNatClampNeg y6))), (a_t_water_boards, .inl (cyI, 3, .inl f_t_water_boards)), (a_t_water_way, .inl (cyI, 3, .inl f_t_water_way))] H := hP
      replace hD : va_D A [(a_t, .inr (2, [.int i_t_reaches, w_t_span, w_t_sum, w_t_odds, .ref a_t_bank, .ref a_t_mill, .ref a_t_hung, .ref a_t_water])), (a_t_bank, .inl (cyI, 3, .inl (upd f_t_bank i_t_reaches.toNatClampNeg x1))), (a_t_mill, .inl (cyI, 3, .inl (upd f_t_mill i_t_reaches.toNatClampNeg x2))), (a_t_hung, .inl (cyI, 3, .inl (upd f_t_hung i_t_reaches.toNatClampNeg (-1)))), (a_t_water, .inr (7, [.ref a_t_water_level, .ref a_t_water_boards, .ref a_t_water_way, w_t_water_beforeRain, w_t_water_hour, w_t_water_rainBefore, w_t_water_next])), (a_t_water_level, .inl (cyI, 3, .inl (upd f_t_water_level i_t_reaches.toNatClampNeg y6))), (a_t_water_boards, .inl (cyI, 3, .inl f_t_water_boards)), (a_t_water_way, .inl (cyI, 3, .inl f_t_water_way))] := hD
      refine lv_aload_n hx hb dX3_addReach_57 rfl (lv_at hl 1 rfl) ?_
      refine va_get (D := D) (ci := 2) (v := .ref a_t_water) (C := RX3) (T := TX3) (N := 8) hx hb hts inX3_addReach_X3 hown hK hP 0 rfl rfl 7 (by decide) (hts _ (List.mem_of_getElem? (i := 5) rfl)) (fun _ h9 => h9) rfl dX3_addReach_58 ?_
      refine va_get (D := D) (ci := 7) (v := .ref a_t_water_boards) (C := RX8) (T := TX8) (N := 7) hx hb hts inX3_addReach_X8 hown hK hP 4 rfl rfl 1 (by decide) (hts _ (List.mem_of_getElem? (i := 11) rfl)) (fun _ h9 => h9) rfl dX3_addReach_61 ?_
      refine lv_iload hx hb dX3_addReach_64 (lv_at hl 0 rfl) ?_
      refine lv_iconst (v := 0) hx hb dX3_addReach_66 (by decide) ?_
      have h8 := hw.1
      replace hw := hw.2
      refine va_iast hx hb hK hP hD hS 6 0 rfl rfl h8 dX3_addReach_67 (fun H locs hP hD hS => ?_)
      replace hP : va_P D vwCl [(a_t, .inr (2, [.int i_t_reaches, w_t_span, w_t_sum, w_t_odds, .ref a_t_bank, .ref a_t_mill, .ref a_t_hung, .ref a_t_water])), (a_t_bank, .inl (cyI, 3, .inl (upd f_t_bank i_t_reaches.toNatClampNeg x1))), (a_t_mill, .inl (cyI, 3, .inl (upd f_t_mill i_t_reaches.toNatClampNeg x2))), (a_t_hung, .inl (cyI, 3, .inl (upd f_t_hung i_t_reaches.toNatClampNeg (-1)))), (a_t_water, .inr (7, [.ref a_t_water_level, .ref a_t_water_boards, .ref a_t_water_way, w_t_water_beforeRain, w_t_water_hour, w_t_water_rainBefore, w_t_water_next])), (a_t_water_level, .inl (cyI, 3, .inl (upd f_t_water_level i_t_reaches.toNatClampNeg y6))), (a_t_water_boards, .inl (cyI, 3, .inl (upd f_t_water_boards i_t_reaches.toNatClampNeg 0))), (a_t_water_way, .inl (cyI, 3, .inl f_t_water_way))] H := hP
      replace hD : va_D A [(a_t, .inr (2, [.int i_t_reaches, w_t_span, w_t_sum, w_t_odds, .ref a_t_bank, .ref a_t_mill, .ref a_t_hung, .ref a_t_water])), (a_t_bank, .inl (cyI, 3, .inl (upd f_t_bank i_t_reaches.toNatClampNeg x1))), (a_t_mill, .inl (cyI, 3, .inl (upd f_t_mill i_t_reaches.toNatClampNeg x2))), (a_t_hung, .inl (cyI, 3, .inl (upd f_t_hung i_t_reaches.toNatClampNeg (-1)))), (a_t_water, .inr (7, [.ref a_t_water_level, .ref a_t_water_boards, .ref a_t_water_way, w_t_water_beforeRain, w_t_water_hour, w_t_water_rainBefore, w_t_water_next])), (a_t_water_level, .inl (cyI, 3, .inl (upd f_t_water_level i_t_reaches.toNatClampNeg y6))), (a_t_water_boards, .inl (cyI, 3, .inl (upd f_t_water_boards i_t_reaches.toNatClampNeg 0))), (a_t_water_way, .inl (cyI, 3, .inl f_t_water_way))] := hD
      refine lv_aload_n hx hb dX3_addReach_68 rfl (lv_at hl 1 rfl) ?_
      refine va_get (D := D) (ci := 2) (v := .ref a_t_water) (C := RX3) (T := TX3) (N := 8) hx hb hts inX3_addReach_X3 hown hK hP 0 rfl rfl 7 (by decide) (hts _ (List.mem_of_getElem? (i := 5) rfl)) (fun _ h9 => h9) rfl dX3_addReach_69 ?_
      refine va_get (D := D) (ci := 7) (v := .ref a_t_water_way) (C := RX8) (T := TX8) (N := 7) hx hb hts inX3_addReach_X8 hown hK hP 4 rfl rfl 2 (by decide) (hts _ (List.mem_of_getElem? (i := 12) rfl)) (fun _ h9 => h9) rfl dX3_addReach_72 ?_
      refine lv_iload hx hb dX3_addReach_75 (lv_at hl 0 rfl) ?_
      refine lv_iconst (v := 1) hx hb dX3_addReach_77 (by decide) ?_
      have h9 := hw.1
      replace hw := hw.2
      refine va_iast hx hb hK hP hD hS 7 0 rfl rfl h9 dX3_addReach_78 (fun H locs hP hD hS => ?_)
      replace hP : va_P D vwCl [(a_t, .inr (2, [.int i_t_reaches, w_t_span, w_t_sum, w_t_odds, .ref a_t_bank, .ref a_t_mill, .ref a_t_hung, .ref a_t_water])), (a_t_bank, .inl (cyI, 3, .inl (upd f_t_bank i_t_reaches.toNatClampNeg x1))), (a_t_mill, .inl (cyI, 3, .inl (upd f_t_mill i_t_reaches.toNatClampNeg x2))), (a_t_hung, .inl (cyI, 3, .inl (upd f_t_hung i_t_reaches.toNatClampNeg (-1)))), (a_t_water, .inr (7, [.ref a_t_water_level, .ref a_t_water_boards, .ref a_t_water_way, w_t_water_beforeRain, w_t_water_hour, w_t_water_rainBefore, w_t_water_next])), (a_t_water_level, .inl (cyI, 3, .inl (upd f_t_water_level i_t_reaches.toNatClampNeg y6))), (a_t_water_boards, .inl (cyI, 3, .inl (upd f_t_water_boards i_t_reaches.toNatClampNeg 0))), (a_t_water_way, .inl (cyI, 3, .inl (upd f_t_water_way i_t_reaches.toNatClampNeg 1)))] H := hP
      replace hD : va_D A [(a_t, .inr (2, [.int i_t_reaches, w_t_span, w_t_sum, w_t_odds, .ref a_t_bank, .ref a_t_mill, .ref a_t_hung, .ref a_t_water])), (a_t_bank, .inl (cyI, 3, .inl (upd f_t_bank i_t_reaches.toNatClampNeg x1))), (a_t_mill, .inl (cyI, 3, .inl (upd f_t_mill i_t_reaches.toNatClampNeg x2))), (a_t_hung, .inl (cyI, 3, .inl (upd f_t_hung i_t_reaches.toNatClampNeg (-1)))), (a_t_water, .inr (7, [.ref a_t_water_level, .ref a_t_water_boards, .ref a_t_water_way, w_t_water_beforeRain, w_t_water_hour, w_t_water_rainBefore, w_t_water_next])), (a_t_water_level, .inl (cyI, 3, .inl (upd f_t_water_level i_t_reaches.toNatClampNeg y6))), (a_t_water_boards, .inl (cyI, 3, .inl (upd f_t_water_boards i_t_reaches.toNatClampNeg 0))), (a_t_water_way, .inl (cyI, 3, .inl (upd f_t_water_way i_t_reaches.toNatClampNeg 1)))] := hD
      refine lv_aload_n hx hb dX3_addReach_79 rfl (lv_at hl 1 rfl) ?_
      refine lv_iload hx hb dX3_addReach_80 (lv_at hl 0 rfl) ?_
      refine lv_iconst (v := 1) hx hb dX3_addReach_82 (by decide) ?_
      refine lv_iadd hx hb dX3_addReach_83 ?_
      refine lv_topi (fun y10 ey10 => ?_)
      replace hw := hw y10 ey10
      refine va_put (D := D) (ci := 2) (v := .int y10) (ty := .int) (C := RX3) (T := TX3) (N := 8) hx hb hts inX3_addReach_X3 tyX3 tyX3_ok nmX3 hown hK hP hD hS 0 rfl rfl 0 (by decide) (hts _ (List.mem_of_getElem? (i := 1) rfl)) (fun _ h9 => h9) rfl (tyX3_ok 0 (by decide)) rfl rfl (Nat.le_of_ble_eq_true rfl) dX3_addReach_84 (fun H locs hP hD hS => ?_)
      replace hP : va_P D vwCl [(a_t, .inr (2, [.int y10, w_t_span, w_t_sum, w_t_odds, .ref a_t_bank, .ref a_t_mill, .ref a_t_hung, .ref a_t_water])), (a_t_bank, .inl (cyI, 3, .inl (upd f_t_bank i_t_reaches.toNatClampNeg x1))), (a_t_mill, .inl (cyI, 3, .inl (upd f_t_mill i_t_reaches.toNatClampNeg x2))), (a_t_hung, .inl (cyI, 3, .inl (upd f_t_hung i_t_reaches.toNatClampNeg (-1)))), (a_t_water, .inr (7, [.ref a_t_water_level, .ref a_t_water_boards, .ref a_t_water_way, w_t_water_beforeRain, w_t_water_hour, w_t_water_rainBefore, w_t_water_next])), (a_t_water_level, .inl (cyI, 3, .inl (upd f_t_water_level i_t_reaches.toNatClampNeg y6))), (a_t_water_boards, .inl (cyI, 3, .inl (upd f_t_water_boards i_t_reaches.toNatClampNeg 0))), (a_t_water_way, .inl (cyI, 3, .inl (upd f_t_water_way i_t_reaches.toNatClampNeg 1)))] H := hP
      replace hD : va_D A [(a_t, .inr (2, [.int y10, w_t_span, w_t_sum, w_t_odds, .ref a_t_bank, .ref a_t_mill, .ref a_t_hung, .ref a_t_water])), (a_t_bank, .inl (cyI, 3, .inl (upd f_t_bank i_t_reaches.toNatClampNeg x1))), (a_t_mill, .inl (cyI, 3, .inl (upd f_t_mill i_t_reaches.toNatClampNeg x2))), (a_t_hung, .inl (cyI, 3, .inl (upd f_t_hung i_t_reaches.toNatClampNeg (-1)))), (a_t_water, .inr (7, [.ref a_t_water_level, .ref a_t_water_boards, .ref a_t_water_way, w_t_water_beforeRain, w_t_water_hour, w_t_water_rainBefore, w_t_water_next])), (a_t_water_level, .inl (cyI, 3, .inl (upd f_t_water_level i_t_reaches.toNatClampNeg y6))), (a_t_water_boards, .inl (cyI, 3, .inl (upd f_t_water_boards i_t_reaches.toNatClampNeg 0))), (a_t_water_way, .inl (cyI, 3, .inl (upd f_t_water_way i_t_reaches.toNatClampNeg 1)))] := hD
      exact W.vret hx hb hr (fun t ht hW => ⟨⟨(y10, upd f_t_bank i_t_reaches.toNatClampNeg x1, upd f_t_mill i_t_reaches.toNatClampNeg x2, upd f_t_hung i_t_reaches.toNatClampNeg (-1), upd f_t_water_level i_t_reaches.toNatClampNeg y6, upd f_t_water_boards i_t_reaches.toNatClampNeg 0, upd f_t_water_way i_t_reaches.toNatClampNeg 1), rfl, hw, post_mk ht hP hD⟩, hS.F ht⟩) hS.2.2 dX3_addReach_87 hlocks
    · replace hw := hw.2 c2
      exact W.vret hx hb hr (fun t ht hW => ⟨⟨(i_t_reaches, f_t_bank, f_t_mill, f_t_hung, f_t_water_level, f_t_water_boards, f_t_water_way), rfl, hw, post_mk ht hP hD⟩, hS.F ht⟩) hS.2.2 dX3_addReach_17 hlocks
set_option maxHeartbeats 8000000 in
set_option maxRecDepth 100000 in
theorem MX4_readReach (l : Launch) (D : va_G) (cyI cyZ cyC : ClassId) (ro : va_W) (ce : Nat → CT) (cin : Nat → Prop) (ad : AD) (a_t a_t_tape a_t_read a_t_read_bank a_t_read_mill a_t_read_hung a_t_read_water a_t_read_water_level a_t_read_water_boards a_t_read_water_way : Nat) (w_t_read_span w_t_read_sum w_t_read_odds w_t_read_water_beforeRain w_t_read_water_hour w_t_read_water_rainBefore w_t_read_water_next : Value) (sz : Nat) (i_t_size : Int32) (i_t_place : Int32) (i_t_fault : Int32) (f_t_tape : Nat → Int32) (i_t_read_reaches : Int32) (f_t_read_bank : Nat → Int32) (f_t_read_mill : Nat → Int32) (f_t_read_hung : Nat → Int32) (f_t_read_water_level : Nat → Int32) (f_t_read_water_boards : Nat → Int32) (f_t_read_water_way : Nat → Int32) (Q : Int32 → Int32 → Int32 → (Nat → Int32) → (Nat → Int32) → (Nat → Int32) → (Nat → Int32) → (Nat → Int32) → (Nat → Int32) → Prop)  (hw : WX4_readReach i_t_size i_t_place i_t_fault f_t_tape i_t_read_reaches f_t_read_bank f_t_read_mill f_t_read_hung f_t_read_water_level f_t_read_water_boards f_t_read_water_way Q) : Met l yX4_readReach wsX4_readReach ({ frames := 6, cells := 0, slots := 0, locals := 128 }) (va_Pc [.ref a_t] (PRE D cyI cyZ cyC ro ce cin ad (SX4_readReach cyI cyZ cyC a_t a_t_tape a_t_read a_t_read_bank a_t_read_mill a_t_read_hung a_t_read_water a_t_read_water_level a_t_read_water_boards a_t_read_water_way w_t_read_span w_t_read_sum w_t_read_odds w_t_read_water_beforeRain w_t_read_water_hour w_t_read_water_rainBefore w_t_read_water_next  i_t_size i_t_place i_t_fault f_t_tape i_t_read_reaches f_t_read_bank f_t_read_mill f_t_read_hung f_t_read_water_level f_t_read_water_boards f_t_read_water_way) sz)) (va_Qv (fun (u : Int32 × Int32 × Int32 × (Nat → Int32) × (Nat → Int32) × (Nat → Int32) × (Nat → Int32) × (Nat → Int32) × (Nat → Int32)) => Q u.1 u.2.1 u.2.2.1 u.2.2.2.1 u.2.2.2.2.1 u.2.2.2.2.2.1 u.2.2.2.2.2.2.1 u.2.2.2.2.2.2.2.1 u.2.2.2.2.2.2.2.2) (fun (u : Int32 × Int32 × Int32 × (Nat → Int32) × (Nat → Int32) × (Nat → Int32) × (Nat → Int32) × (Nat → Int32) × (Nat → Int32)) (t : State) => POST D (va_A (SX4_readReach cyI cyZ cyC a_t a_t_tape a_t_read a_t_read_bank a_t_read_mill a_t_read_hung a_t_read_water a_t_read_water_level a_t_read_water_boards a_t_read_water_way w_t_read_span w_t_read_sum w_t_read_odds w_t_read_water_beforeRain w_t_read_water_hour w_t_read_water_rainBefore w_t_read_water_next  i_t_size i_t_place i_t_fault f_t_tape i_t_read_reaches f_t_read_bank f_t_read_mill f_t_read_hung f_t_read_water_level f_t_read_water_boards f_t_read_water_way) sz) (SX4_readReach cyI cyZ cyC a_t a_t_tape a_t_read a_t_read_bank a_t_read_mill a_t_read_hung a_t_read_water a_t_read_water_level a_t_read_water_boards a_t_read_water_way w_t_read_span w_t_read_sum w_t_read_odds w_t_read_water_beforeRain w_t_read_water_hour w_t_read_water_rainBefore w_t_read_water_next  i_t_size u.1 u.2.1 f_t_tape u.2.2.1 u.2.2.2.1 u.2.2.2.2.1 u.2.2.2.2.2.1 u.2.2.2.2.2.2.1 u.2.2.2.2.2.2.2.1 u.2.2.2.2.2.2.2.2) t) (va_A (SX4_readReach cyI cyZ cyC a_t a_t_tape a_t_read a_t_read_bank a_t_read_mill a_t_read_hung a_t_read_water a_t_read_water_level a_t_read_water_boards a_t_read_water_way w_t_read_span w_t_read_sum w_t_read_odds w_t_read_water_beforeRain w_t_read_water_hour w_t_read_water_rainBefore w_t_read_water_next  i_t_size i_t_place i_t_fault f_t_tape i_t_read_reaches f_t_read_bank f_t_read_mill f_t_read_hung f_t_read_water_level f_t_read_water_boards f_t_read_water_way) sz)) 0 0 (va_A (SX4_readReach cyI cyZ cyC a_t a_t_tape a_t_read a_t_read_bank a_t_read_mill a_t_read_hung a_t_read_water a_t_read_water_level a_t_read_water_boards a_t_read_water_way w_t_read_span w_t_read_sum w_t_read_odds w_t_read_water_beforeRain w_t_read_water_hour w_t_read_water_rainBefore w_t_read_water_next  i_t_size i_t_place i_t_fault f_t_tape i_t_read_reaches f_t_read_bank f_t_read_mill f_t_read_hung f_t_read_water_level f_t_read_water_boards f_t_read_water_way) sz) := by
  refine Met.ofW (cc := cX4_readReach) (maxL := 4) (ret := none) (by decide +kernel) rfl ?_
  intro p e s m args below meth c s₁ B hml hv
  obtain ⟨rfl, hsz, hP, hK, hD0, hX⟩ := hv
  have hx := B.exec
  have hb := B.bytes
  have hr := B.returns
  have hts := atoms_spec (ws := wsX4_readReach) B.pre
  have hown : s.vm.findClass RX4 = some m.cls := findClass_of_methodNamed B.named
  have hlocks := B.notSynchronized
  clear B
  subst hsz
  have hD := hD0.self (sz := s.heap.size)
  clear hD0
  generalize hAe : va_A (SX4_readReach cyI cyZ cyC a_t a_t_tape a_t_read a_t_read_bank a_t_read_mill a_t_read_hung a_t_read_water a_t_read_water_level a_t_read_water_boards a_t_read_water_way w_t_read_span w_t_read_sum w_t_read_odds w_t_read_water_beforeRain w_t_read_water_hour w_t_read_water_rainBefore w_t_read_water_next  i_t_size i_t_place i_t_fault f_t_tape i_t_read_reaches f_t_read_bank f_t_read_mill f_t_read_hung f_t_read_water_level f_t_read_water_boards f_t_read_water_way) s.heap.size = A at hD hX ⊢
  have hA : ∀ q : Nat, s.heap.size ≤ q → A q := fun q h => by rw [← hAe]; exact Or.inr h
  clear hAe
  obtain ⟨H, hH⟩ : ∃ H, H = s.heap := ⟨_, rfl⟩
  rw [← hH] at hP ⊢
  have hS : va_S A s.heap H [] := by rw [hH]; exact va_S.rf
  clear hH
  replace hP : va_P D vwCl [(a_t, .inr (3, [.ref a_t_tape, .int i_t_size, .int i_t_place, .int i_t_fault, .ref a_t_read])), (a_t_tape, .inl (cyI, 120, .inl f_t_tape)), (a_t_read, .inr (2, [.int i_t_read_reaches, w_t_read_span, w_t_read_sum, w_t_read_odds, .ref a_t_read_bank, .ref a_t_read_mill, .ref a_t_read_hung, .ref a_t_read_water])), (a_t_read_bank, .inl (cyI, 3, .inl f_t_read_bank)), (a_t_read_mill, .inl (cyI, 3, .inl f_t_read_mill)), (a_t_read_hung, .inl (cyI, 3, .inl f_t_read_hung)), (a_t_read_water, .inr (7, [.ref a_t_read_water_level, .ref a_t_read_water_boards, .ref a_t_read_water_way, w_t_read_water_beforeRain, w_t_read_water_hour, w_t_read_water_rainBefore, w_t_read_water_next])), (a_t_read_water_level, .inl (cyI, 3, .inl f_t_read_water_level)), (a_t_read_water_boards, .inl (cyI, 3, .inl f_t_read_water_boards)), (a_t_read_water_way, .inl (cyI, 3, .inl f_t_read_water_way))] H := hP
  replace hD : va_D A [(a_t, .inr (3, [.ref a_t_tape, .int i_t_size, .int i_t_place, .int i_t_fault, .ref a_t_read])), (a_t_tape, .inl (cyI, 120, .inl f_t_tape)), (a_t_read, .inr (2, [.int i_t_read_reaches, w_t_read_span, w_t_read_sum, w_t_read_odds, .ref a_t_read_bank, .ref a_t_read_mill, .ref a_t_read_hung, .ref a_t_read_water])), (a_t_read_bank, .inl (cyI, 3, .inl f_t_read_bank)), (a_t_read_mill, .inl (cyI, 3, .inl f_t_read_mill)), (a_t_read_hung, .inl (cyI, 3, .inl f_t_read_hung)), (a_t_read_water, .inr (7, [.ref a_t_read_water_level, .ref a_t_read_water_boards, .ref a_t_read_water_way, w_t_read_water_beforeRain, w_t_read_water_hour, w_t_read_water_rainBefore, w_t_read_water_next])), (a_t_read_water_level, .inl (cyI, 3, .inl f_t_read_water_level)), (a_t_read_water_boards, .inl (cyI, 3, .inl f_t_read_water_boards)), (a_t_read_water_way, .inl (cyI, 3, .inl f_t_read_water_way))] := hD
  have hl := lv_entry ([.ref a_t]) (n := 4) (Nat.le_of_ble_eq_true rfl)
  rw [lg_entry_eq]
  generalize (lg_sl ([.ref a_t]) ++ List.replicate (4 - (lg_sl ([.ref a_t])).length) Slot.unset).toArray = ls at hl ⊢
  replace hl : lv_has ls 4 [(0, .ref a_t)] := hl
  unfold WX4_readReach at hw
  refine lv_aload_n hx hb dX4_readReach_0 rfl (lv_at hl 0 rfl) ?_
  refine va_ldcS (tx := "reach ") (q := ad.1 0) hx hb hown (hX.env.2.1 ("SluiceCards$RiverReader", 68, "reach ", 0) (List.mem_of_getElem? (i := 0) rfl)) dX4_readReach_1 ?_
  obtain ⟨QK, eQ, hq⟩ := genq (P := WX2_needsAll_X4 0 i_t_size i_t_place i_t_fault f_t_tape) hw
  clear hw
  have hPc := hP.sub (ws' := [(a_t, .inr (3, [.ref a_t_tape, .int i_t_size, .int i_t_place, .int i_t_fault, .ref a_t_read])), (a_t_tape, .inl (cyI, 120, .inl f_t_tape))]) [0, 1] rfl
  have hDc := hD.sub (ws' := [(a_t, .inr (3, [.ref a_t_tape, .int i_t_size, .int i_t_place, .int i_t_fault, .ref a_t_read])), (a_t_tape, .inl (cyI, 120, .inl f_t_tape))]) [0, 1] (by decide) rfl
  have hFc := va_free (wc := [(a_t, .inr (3, [.ref a_t_tape, .int i_t_size, .int i_t_place, .int i_t_fault, .ref a_t_read])), (a_t_tape, .inl (cyI, 120, .inl f_t_tape))]) hD hS hA [0, 1] rfl
  refine va_callv (va_runU (As := [.ref (ad.1 0)]) (rest := []) ⟨hx, hb, hml, hown, hts⟩ (MX2_needsAll_X4 l D cyI cyZ cyC ro ce cin ad a_t a_t_tape  (.ref a_t_read) H.size 0 i_t_size i_t_place i_t_fault f_t_tape QK (by decide) hq) (va_cwU 1 hts gX4_readReach_X2_needsAll_u54X4 rfl rfl rfl rfl dmX2_needsAllu ⟨Nat.le_of_ble_eq_true rfl, Nat.le_of_ble_eq_true rfl⟩) ⟨pre_bl, va_recv hK hPc (ci := 3) (q0 := 0) rfl rfl, fun U hU hW => ⟨rfl, pre_of hX hS hK hPc hDc hFc hU hW⟩⟩ rfl rfl hl.1 rfl (lv_room (Nat.le_of_ble_eq_true rfl)) dX4_readReach_3 ⟨Nat.zero_le _, Nat.zero_le _⟩) hS (fun q _ h => hFc q h) hFc (fun u t H1 locs ht hvm hw hB hz1 hk1 hS => ?_)
  obtain ⟨i_t_place_1, i_t_fault_2⟩ := u
  replace hw : QK i_t_place_1 i_t_fault_2 := hw
  clear hq
  subst eQ
  obtain ⟨hP1, hD1⟩ := hB
  rw [ht] at hP1
  obtain ⟨hP, hD⟩ := va_join (wr := [(a_t_read, .inr (2, [.int i_t_read_reaches, w_t_read_span, w_t_read_sum, w_t_read_odds, .ref a_t_read_bank, .ref a_t_read_mill, .ref a_t_read_hung, .ref a_t_read_water])), (a_t_read_bank, .inl (cyI, 3, .inl f_t_read_bank)), (a_t_read_mill, .inl (cyI, 3, .inl f_t_read_mill)), (a_t_read_hung, .inl (cyI, 3, .inl f_t_read_hung)), (a_t_read_water, .inr (7, [.ref a_t_read_water_level, .ref a_t_read_water_boards, .ref a_t_read_water_way, w_t_read_water_beforeRain, w_t_read_water_hour, w_t_read_water_rainBefore, w_t_read_water_next])), (a_t_read_water_level, .inl (cyI, 3, .inl f_t_read_water_level)), (a_t_read_water_boards, .inl (cyI, 3, .inl f_t_read_water_boards)), (a_t_read_water_way, .inl (cyI, 3, .inl f_t_read_water_way))]) (w1 := [(a_t, .inr (3, [.ref a_t_tape, .int i_t_size, .int i_t_place_1, .int i_t_fault_2, .ref a_t_read])), (a_t_tape, .inl (cyI, 120, .inl f_t_tape))]) hP hD [0, 1] [2, 3, 4, 5, 6, 7, 8, 9] rfl rfl (by decide) (by decide) hk1 hFc hP1 hD1
  clear hPc hDc hFc hk1 hz1 hP1 hD1 ht hvm
  generalize H1 = H at hP hS ⊢
  replace hP : va_P D vwCl [(a_t_read, .inr (2, [.int i_t_read_reaches, w_t_read_span, w_t_read_sum, w_t_read_odds, .ref a_t_read_bank, .ref a_t_read_mill, .ref a_t_read_hung, .ref a_t_read_water])), (a_t_read_bank, .inl (cyI, 3, .inl f_t_read_bank)), (a_t_read_mill, .inl (cyI, 3, .inl f_t_read_mill)), (a_t_read_hung, .inl (cyI, 3, .inl f_t_read_hung)), (a_t_read_water, .inr (7, [.ref a_t_read_water_level, .ref a_t_read_water_boards, .ref a_t_read_water_way, w_t_read_water_beforeRain, w_t_read_water_hour, w_t_read_water_rainBefore, w_t_read_water_next])), (a_t_read_water_level, .inl (cyI, 3, .inl f_t_read_water_level)), (a_t_read_water_boards, .inl (cyI, 3, .inl f_t_read_water_boards)), (a_t_read_water_way, .inl (cyI, 3, .inl f_t_read_water_way)), (a_t, .inr (3, [.ref a_t_tape, .int i_t_size, .int i_t_place_1, .int i_t_fault_2, .ref a_t_read])), (a_t_tape, .inl (cyI, 120, .inl f_t_tape))] H := hP
  replace hD : va_D A [(a_t_read, .inr (2, [.int i_t_read_reaches, w_t_read_span, w_t_read_sum, w_t_read_odds, .ref a_t_read_bank, .ref a_t_read_mill, .ref a_t_read_hung, .ref a_t_read_water])), (a_t_read_bank, .inl (cyI, 3, .inl f_t_read_bank)), (a_t_read_mill, .inl (cyI, 3, .inl f_t_read_mill)), (a_t_read_hung, .inl (cyI, 3, .inl f_t_read_hung)), (a_t_read_water, .inr (7, [.ref a_t_read_water_level, .ref a_t_read_water_boards, .ref a_t_read_water_way, w_t_read_water_beforeRain, w_t_read_water_hour, w_t_read_water_rainBefore, w_t_read_water_next])), (a_t_read_water_level, .inl (cyI, 3, .inl f_t_read_water_level)), (a_t_read_water_boards, .inl (cyI, 3, .inl f_t_read_water_boards)), (a_t_read_water_way, .inl (cyI, 3, .inl f_t_read_water_way)), (a_t, .inr (3, [.ref a_t_tape, .int i_t_size, .int i_t_place_1, .int i_t_fault_2, .ref a_t_read])), (a_t_tape, .inl (cyI, 120, .inl f_t_tape))] := hD
  refine lv_aload_n hx hb dX4_readReach_6 rfl (lv_at hl 0 rfl) ?_
  refine lv_iconst (v := 1) hx hb dX4_readReach_7 (by decide) ?_
  refine lv_bipush (v := 9) hx hb dX4_readReach_8 (by decide) ?_
  obtain ⟨QK, eQ, hq⟩ := genq (P := WX2_digit_X4 1 9 i_t_size i_t_place_1 i_t_fault_2 f_t_tape) hw
  clear hw
  have hPc := hP.sub (ws' := [(a_t, .inr (3, [.ref a_t_tape, .int i_t_size, .int i_t_place_1, .int i_t_fault_2, .ref a_t_read])), (a_t_tape, .inl (cyI, 120, .inl f_t_tape))]) [8, 9] rfl
  have hDc := hD.sub (ws' := [(a_t, .inr (3, [.ref a_t_tape, .int i_t_size, .int i_t_place_1, .int i_t_fault_2, .ref a_t_read])), (a_t_tape, .inl (cyI, 120, .inl f_t_tape))]) [8, 9] (by decide) rfl
  have hFc := va_free (wc := [(a_t, .inr (3, [.ref a_t_tape, .int i_t_size, .int i_t_place_1, .int i_t_fault_2, .ref a_t_read])), (a_t_tape, .inl (cyI, 120, .inl f_t_tape))]) hD hS hA [8, 9] rfl
  refine va_calli (va_runU (As := [.int 1, .int 9]) (rest := []) ⟨hx, hb, hml, hown, hts⟩ (MX2_digit_X4 l D cyI cyZ cyC ro ce cin ad a_t a_t_tape  (.ref a_t_read) H.size 1 9 i_t_size i_t_place_1 i_t_fault_2 f_t_tape QK  hq) (va_cwU 2 hts gX4_readReach_X2_digit_u58X4 rfl rfl rfl rfl dmX2_digitu ⟨Nat.le_of_ble_eq_true rfl, Nat.le_of_ble_eq_true rfl⟩) ⟨pre_bl, va_recv hK hPc (ci := 3) (q0 := 0) rfl rfl, fun U hU hW => ⟨rfl, pre_of hX hS hK hPc hDc hFc hU hW⟩⟩ rfl rfl hl.1 rfl (lv_room (Nat.le_of_ble_eq_true rfl)) dX4_readReach_10 ⟨Nat.zero_le _, Nat.zero_le _⟩) hS (fun q _ h => hFc q h) hFc (fun r3 u t H1 locs ht hvm hw hB hz1 hk1 hS => ?_)
  obtain ⟨i_t_place_4, i_t_fault_5⟩ := u
  replace hw : QK r3 i_t_place_4 i_t_fault_5 := hw
  clear hq
  subst eQ
  obtain ⟨hP1, hD1⟩ := hB
  rw [ht] at hP1
  obtain ⟨hP, hD⟩ := va_join (wr := [(a_t_read, .inr (2, [.int i_t_read_reaches, w_t_read_span, w_t_read_sum, w_t_read_odds, .ref a_t_read_bank, .ref a_t_read_mill, .ref a_t_read_hung, .ref a_t_read_water])), (a_t_read_bank, .inl (cyI, 3, .inl f_t_read_bank)), (a_t_read_mill, .inl (cyI, 3, .inl f_t_read_mill)), (a_t_read_hung, .inl (cyI, 3, .inl f_t_read_hung)), (a_t_read_water, .inr (7, [.ref a_t_read_water_level, .ref a_t_read_water_boards, .ref a_t_read_water_way, w_t_read_water_beforeRain, w_t_read_water_hour, w_t_read_water_rainBefore, w_t_read_water_next])), (a_t_read_water_level, .inl (cyI, 3, .inl f_t_read_water_level)), (a_t_read_water_boards, .inl (cyI, 3, .inl f_t_read_water_boards)), (a_t_read_water_way, .inl (cyI, 3, .inl f_t_read_water_way))]) (w1 := [(a_t, .inr (3, [.ref a_t_tape, .int i_t_size, .int i_t_place_4, .int i_t_fault_5, .ref a_t_read])), (a_t_tape, .inl (cyI, 120, .inl f_t_tape))]) hP hD [8, 9] [0, 1, 2, 3, 4, 5, 6, 7] rfl rfl (by decide) (by decide) hk1 hFc hP1 hD1
  clear hPc hDc hFc hk1 hz1 hP1 hD1 ht hvm
  generalize H1 = H at hP hS ⊢
  replace hP : va_P D vwCl [(a_t_read, .inr (2, [.int i_t_read_reaches, w_t_read_span, w_t_read_sum, w_t_read_odds, .ref a_t_read_bank, .ref a_t_read_mill, .ref a_t_read_hung, .ref a_t_read_water])), (a_t_read_bank, .inl (cyI, 3, .inl f_t_read_bank)), (a_t_read_mill, .inl (cyI, 3, .inl f_t_read_mill)), (a_t_read_hung, .inl (cyI, 3, .inl f_t_read_hung)), (a_t_read_water, .inr (7, [.ref a_t_read_water_level, .ref a_t_read_water_boards, .ref a_t_read_water_way, w_t_read_water_beforeRain, w_t_read_water_hour, w_t_read_water_rainBefore, w_t_read_water_next])), (a_t_read_water_level, .inl (cyI, 3, .inl f_t_read_water_level)), (a_t_read_water_boards, .inl (cyI, 3, .inl f_t_read_water_boards)), (a_t_read_water_way, .inl (cyI, 3, .inl f_t_read_water_way)), (a_t, .inr (3, [.ref a_t_tape, .int i_t_size, .int i_t_place_4, .int i_t_fault_5, .ref a_t_read])), (a_t_tape, .inl (cyI, 120, .inl f_t_tape))] H := hP
  replace hD : va_D A [(a_t_read, .inr (2, [.int i_t_read_reaches, w_t_read_span, w_t_read_sum, w_t_read_odds, .ref a_t_read_bank, .ref a_t_read_mill, .ref a_t_read_hung, .ref a_t_read_water])), (a_t_read_bank, .inl (cyI, 3, .inl f_t_read_bank)), (a_t_read_mill, .inl (cyI, 3, .inl f_t_read_mill)), (a_t_read_hung, .inl (cyI, 3, .inl f_t_read_hung)), (a_t_read_water, .inr (7, [.ref a_t_read_water_level, .ref a_t_read_water_boards, .ref a_t_read_water_way, w_t_read_water_beforeRain, w_t_read_water_hour, w_t_read_water_rainBefore, w_t_read_water_next])), (a_t_read_water_level, .inl (cyI, 3, .inl f_t_read_water_level)), (a_t_read_water_boards, .inl (cyI, 3, .inl f_t_read_water_boards)), (a_t_read_water_way, .inl (cyI, 3, .inl f_t_read_water_way)), (a_t, .inr (3, [.ref a_t_tape, .int i_t_size, .int i_t_place_4, .int i_t_fault_5, .ref a_t_read])), (a_t_tape, .inl (cyI, 120, .inl f_t_tape))] := hD
  refine lv_istore_n (lv' := [(1, .int r3), (0, .ref a_t)]) hx hb dX4_readReach_13 rfl hl (by decide) rfl (fun ls hl => ?_)
  refine lv_aload_n hx hb dX4_readReach_14 rfl (lv_at hl 1 rfl) ?_
  refine lv_bipush (v := 32) hx hb dX4_readReach_15 (by decide) ?_
  obtain ⟨QK, eQ, hq⟩ := genq (P := WX2_needs_X4 32 i_t_size i_t_place_4 i_t_fault_5 f_t_tape) hw
  clear hw
  have hPc := hP.sub (ws' := [(a_t, .inr (3, [.ref a_t_tape, .int i_t_size, .int i_t_place_4, .int i_t_fault_5, .ref a_t_read])), (a_t_tape, .inl (cyI, 120, .inl f_t_tape))]) [8, 9] rfl
  have hDc := hD.sub (ws' := [(a_t, .inr (3, [.ref a_t_tape, .int i_t_size, .int i_t_place_4, .int i_t_fault_5, .ref a_t_read])), (a_t_tape, .inl (cyI, 120, .inl f_t_tape))]) [8, 9] (by decide) rfl
  have hFc := va_free (wc := [(a_t, .inr (3, [.ref a_t_tape, .int i_t_size, .int i_t_place_4, .int i_t_fault_5, .ref a_t_read])), (a_t_tape, .inl (cyI, 120, .inl f_t_tape))]) hD hS hA [8, 9] rfl
  refine va_callv (va_runU (As := [.int 32]) (rest := []) ⟨hx, hb, hml, hown, hts⟩ (MX2_needs_X4 l D cyI cyZ cyC ro ce cin ad a_t a_t_tape  (.ref a_t_read) H.size 32 i_t_size i_t_place_4 i_t_fault_5 f_t_tape QK  hq) (va_cwU 1 hts gX4_readReach_X2_needs_u70X4 rfl rfl rfl rfl dmX2_needsu ⟨Nat.le_of_ble_eq_true rfl, Nat.le_of_ble_eq_true rfl⟩) ⟨pre_bl, va_recv hK hPc (ci := 3) (q0 := 0) rfl rfl, fun U hU hW => ⟨rfl, pre_of hX hS hK hPc hDc hFc hU hW⟩⟩ rfl rfl hl.1 rfl (lv_room (Nat.le_of_ble_eq_true rfl)) dX4_readReach_17 ⟨Nat.zero_le _, Nat.zero_le _⟩) hS (fun q _ h => hFc q h) hFc (fun u t H1 locs ht hvm hw hB hz1 hk1 hS => ?_)
  obtain ⟨i_t_place_6, i_t_fault_7⟩ := u
  replace hw : QK i_t_place_6 i_t_fault_7 := hw
  clear hq
  subst eQ
  obtain ⟨hP1, hD1⟩ := hB
  rw [ht] at hP1
  obtain ⟨hP, hD⟩ := va_join (wr := [(a_t_read, .inr (2, [.int i_t_read_reaches, w_t_read_span, w_t_read_sum, w_t_read_odds, .ref a_t_read_bank, .ref a_t_read_mill, .ref a_t_read_hung, .ref a_t_read_water])), (a_t_read_bank, .inl (cyI, 3, .inl f_t_read_bank)), (a_t_read_mill, .inl (cyI, 3, .inl f_t_read_mill)), (a_t_read_hung, .inl (cyI, 3, .inl f_t_read_hung)), (a_t_read_water, .inr (7, [.ref a_t_read_water_level, .ref a_t_read_water_boards, .ref a_t_read_water_way, w_t_read_water_beforeRain, w_t_read_water_hour, w_t_read_water_rainBefore, w_t_read_water_next])), (a_t_read_water_level, .inl (cyI, 3, .inl f_t_read_water_level)), (a_t_read_water_boards, .inl (cyI, 3, .inl f_t_read_water_boards)), (a_t_read_water_way, .inl (cyI, 3, .inl f_t_read_water_way))]) (w1 := [(a_t, .inr (3, [.ref a_t_tape, .int i_t_size, .int i_t_place_6, .int i_t_fault_7, .ref a_t_read])), (a_t_tape, .inl (cyI, 120, .inl f_t_tape))]) hP hD [8, 9] [0, 1, 2, 3, 4, 5, 6, 7] rfl rfl (by decide) (by decide) hk1 hFc hP1 hD1
  clear hPc hDc hFc hk1 hz1 hP1 hD1 ht hvm
  generalize H1 = H at hP hS ⊢
  replace hP : va_P D vwCl [(a_t_read, .inr (2, [.int i_t_read_reaches, w_t_read_span, w_t_read_sum, w_t_read_odds, .ref a_t_read_bank, .ref a_t_read_mill, .ref a_t_read_hung, .ref a_t_read_water])), (a_t_read_bank, .inl (cyI, 3, .inl f_t_read_bank)), (a_t_read_mill, .inl (cyI, 3, .inl f_t_read_mill)), (a_t_read_hung, .inl (cyI, 3, .inl f_t_read_hung)), (a_t_read_water, .inr (7, [.ref a_t_read_water_level, .ref a_t_read_water_boards, .ref a_t_read_water_way, w_t_read_water_beforeRain, w_t_read_water_hour, w_t_read_water_rainBefore, w_t_read_water_next])), (a_t_read_water_level, .inl (cyI, 3, .inl f_t_read_water_level)), (a_t_read_water_boards, .inl (cyI, 3, .inl f_t_read_water_boards)), (a_t_read_water_way, .inl (cyI, 3, .inl f_t_read_water_way)), (a_t, .inr (3, [.ref a_t_tape, .int i_t_size, .int i_t_place_6, .int i_t_fault_7, .ref a_t_read])), (a_t_tape, .inl (cyI, 120, .inl f_t_tape))] H := hP
  replace hD : va_D A [(a_t_read, .inr (2, [.int i_t_read_reaches, w_t_read_span, w_t_read_sum, w_t_read_odds, .ref a_t_read_bank, .ref a_t_read_mill, .ref a_t_read_hung, .ref a_t_read_water])), (a_t_read_bank, .inl (cyI, 3, .inl f_t_read_bank)), (a_t_read_mill, .inl (cyI, 3, .inl f_t_read_mill)), (a_t_read_hung, .inl (cyI, 3, .inl f_t_read_hung)), (a_t_read_water, .inr (7, [.ref a_t_read_water_level, .ref a_t_read_water_boards, .ref a_t_read_water_way, w_t_read_water_beforeRain, w_t_read_water_hour, w_t_read_water_rainBefore, w_t_read_water_next])), (a_t_read_water_level, .inl (cyI, 3, .inl f_t_read_water_level)), (a_t_read_water_boards, .inl (cyI, 3, .inl f_t_read_water_boards)), (a_t_read_water_way, .inl (cyI, 3, .inl f_t_read_water_way)), (a_t, .inr (3, [.ref a_t_tape, .int i_t_size, .int i_t_place_6, .int i_t_fault_7, .ref a_t_read])), (a_t_tape, .inl (cyI, 120, .inl f_t_tape))] := hD
  refine lv_aload_n hx hb dX4_readReach_20 rfl (lv_at hl 1 rfl) ?_
  refine lv_iconst (v := 0) hx hb dX4_readReach_21 (by decide) ?_
  refine lv_bipush (v := 9) hx hb dX4_readReach_22 (by decide) ?_
  obtain ⟨QK, eQ, hq⟩ := genq (P := WX2_digit_X4 0 9 i_t_size i_t_place_6 i_t_fault_7 f_t_tape) hw
  clear hw
  have hPc := hP.sub (ws' := [(a_t, .inr (3, [.ref a_t_tape, .int i_t_size, .int i_t_place_6, .int i_t_fault_7, .ref a_t_read])), (a_t_tape, .inl (cyI, 120, .inl f_t_tape))]) [8, 9] rfl
  have hDc := hD.sub (ws' := [(a_t, .inr (3, [.ref a_t_tape, .int i_t_size, .int i_t_place_6, .int i_t_fault_7, .ref a_t_read])), (a_t_tape, .inl (cyI, 120, .inl f_t_tape))]) [8, 9] (by decide) rfl
  have hFc := va_free (wc := [(a_t, .inr (3, [.ref a_t_tape, .int i_t_size, .int i_t_place_6, .int i_t_fault_7, .ref a_t_read])), (a_t_tape, .inl (cyI, 120, .inl f_t_tape))]) hD hS hA [8, 9] rfl
  refine va_calli (va_runU (As := [.int 0, .int 9]) (rest := []) ⟨hx, hb, hml, hown, hts⟩ (MX2_digit_X4 l D cyI cyZ cyC ro ce cin ad a_t a_t_tape  (.ref a_t_read) H.size 0 9 i_t_size i_t_place_6 i_t_fault_7 f_t_tape QK  hq) (va_cwU 2 hts gX4_readReach_X2_digit_u58X4 rfl rfl rfl rfl dmX2_digitu ⟨Nat.le_of_ble_eq_true rfl, Nat.le_of_ble_eq_true rfl⟩) ⟨pre_bl, va_recv hK hPc (ci := 3) (q0 := 0) rfl rfl, fun U hU hW => ⟨rfl, pre_of hX hS hK hPc hDc hFc hU hW⟩⟩ rfl rfl hl.1 rfl (lv_room (Nat.le_of_ble_eq_true rfl)) dX4_readReach_24 ⟨Nat.zero_le _, Nat.zero_le _⟩) hS (fun q _ h => hFc q h) hFc (fun r8 u t H1 locs ht hvm hw hB hz1 hk1 hS => ?_)
  obtain ⟨i_t_place_9, i_t_fault_10⟩ := u
  replace hw : QK r8 i_t_place_9 i_t_fault_10 := hw
  clear hq
  subst eQ
  obtain ⟨hP1, hD1⟩ := hB
  rw [ht] at hP1
  obtain ⟨hP, hD⟩ := va_join (wr := [(a_t_read, .inr (2, [.int i_t_read_reaches, w_t_read_span, w_t_read_sum, w_t_read_odds, .ref a_t_read_bank, .ref a_t_read_mill, .ref a_t_read_hung, .ref a_t_read_water])), (a_t_read_bank, .inl (cyI, 3, .inl f_t_read_bank)), (a_t_read_mill, .inl (cyI, 3, .inl f_t_read_mill)), (a_t_read_hung, .inl (cyI, 3, .inl f_t_read_hung)), (a_t_read_water, .inr (7, [.ref a_t_read_water_level, .ref a_t_read_water_boards, .ref a_t_read_water_way, w_t_read_water_beforeRain, w_t_read_water_hour, w_t_read_water_rainBefore, w_t_read_water_next])), (a_t_read_water_level, .inl (cyI, 3, .inl f_t_read_water_level)), (a_t_read_water_boards, .inl (cyI, 3, .inl f_t_read_water_boards)), (a_t_read_water_way, .inl (cyI, 3, .inl f_t_read_water_way))]) (w1 := [(a_t, .inr (3, [.ref a_t_tape, .int i_t_size, .int i_t_place_9, .int i_t_fault_10, .ref a_t_read])), (a_t_tape, .inl (cyI, 120, .inl f_t_tape))]) hP hD [8, 9] [0, 1, 2, 3, 4, 5, 6, 7] rfl rfl (by decide) (by decide) hk1 hFc hP1 hD1
  clear hPc hDc hFc hk1 hz1 hP1 hD1 ht hvm
  generalize H1 = H at hP hS ⊢
  replace hP : va_P D vwCl [(a_t_read, .inr (2, [.int i_t_read_reaches, w_t_read_span, w_t_read_sum, w_t_read_odds, .ref a_t_read_bank, .ref a_t_read_mill, .ref a_t_read_hung, .ref a_t_read_water])), (a_t_read_bank, .inl (cyI, 3, .inl f_t_read_bank)), (a_t_read_mill, .inl (cyI, 3, .inl f_t_read_mill)), (a_t_read_hung, .inl (cyI, 3, .inl f_t_read_hung)), (a_t_read_water, .inr (7, [.ref a_t_read_water_level, .ref a_t_read_water_boards, .ref a_t_read_water_way, w_t_read_water_beforeRain, w_t_read_water_hour, w_t_read_water_rainBefore, w_t_read_water_next])), (a_t_read_water_level, .inl (cyI, 3, .inl f_t_read_water_level)), (a_t_read_water_boards, .inl (cyI, 3, .inl f_t_read_water_boards)), (a_t_read_water_way, .inl (cyI, 3, .inl f_t_read_water_way)), (a_t, .inr (3, [.ref a_t_tape, .int i_t_size, .int i_t_place_9, .int i_t_fault_10, .ref a_t_read])), (a_t_tape, .inl (cyI, 120, .inl f_t_tape))] H := hP
  replace hD : va_D A [(a_t_read, .inr (2, [.int i_t_read_reaches, w_t_read_span, w_t_read_sum, w_t_read_odds, .ref a_t_read_bank, .ref a_t_read_mill, .ref a_t_read_hung, .ref a_t_read_water])), (a_t_read_bank, .inl (cyI, 3, .inl f_t_read_bank)), (a_t_read_mill, .inl (cyI, 3, .inl f_t_read_mill)), (a_t_read_hung, .inl (cyI, 3, .inl f_t_read_hung)), (a_t_read_water, .inr (7, [.ref a_t_read_water_level, .ref a_t_read_water_boards, .ref a_t_read_water_way, w_t_read_water_beforeRain, w_t_read_water_hour, w_t_read_water_rainBefore, w_t_read_water_next])), (a_t_read_water_level, .inl (cyI, 3, .inl f_t_read_water_level)), (a_t_read_water_boards, .inl (cyI, 3, .inl f_t_read_water_boards)), (a_t_read_water_way, .inl (cyI, 3, .inl f_t_read_water_way)), (a_t, .inr (3, [.ref a_t_tape, .int i_t_size, .int i_t_place_9, .int i_t_fault_10, .ref a_t_read])), (a_t_tape, .inl (cyI, 120, .inl f_t_tape))] := hD
  refine lv_istore_n (lv' := [(2, .int r8), (1, .int r3), (0, .ref a_t)]) hx hb dX4_readReach_27 rfl hl (by decide) rfl (fun ls hl => ?_)
  refine lv_aload_n hx hb dX4_readReach_28 rfl (lv_at hl 2 rfl) ?_
  refine lv_bipush (v := 32) hx hb dX4_readReach_29 (by decide) ?_
  obtain ⟨QK, eQ, hq⟩ := genq (P := WX2_needs_X4 32 i_t_size i_t_place_9 i_t_fault_10 f_t_tape) hw
  clear hw
  have hPc := hP.sub (ws' := [(a_t, .inr (3, [.ref a_t_tape, .int i_t_size, .int i_t_place_9, .int i_t_fault_10, .ref a_t_read])), (a_t_tape, .inl (cyI, 120, .inl f_t_tape))]) [8, 9] rfl
  have hDc := hD.sub (ws' := [(a_t, .inr (3, [.ref a_t_tape, .int i_t_size, .int i_t_place_9, .int i_t_fault_10, .ref a_t_read])), (a_t_tape, .inl (cyI, 120, .inl f_t_tape))]) [8, 9] (by decide) rfl
  have hFc := va_free (wc := [(a_t, .inr (3, [.ref a_t_tape, .int i_t_size, .int i_t_place_9, .int i_t_fault_10, .ref a_t_read])), (a_t_tape, .inl (cyI, 120, .inl f_t_tape))]) hD hS hA [8, 9] rfl
  refine va_callv (va_runU (As := [.int 32]) (rest := []) ⟨hx, hb, hml, hown, hts⟩ (MX2_needs_X4 l D cyI cyZ cyC ro ce cin ad a_t a_t_tape  (.ref a_t_read) H.size 32 i_t_size i_t_place_9 i_t_fault_10 f_t_tape QK  hq) (va_cwU 1 hts gX4_readReach_X2_needs_u70X4 rfl rfl rfl rfl dmX2_needsu ⟨Nat.le_of_ble_eq_true rfl, Nat.le_of_ble_eq_true rfl⟩) ⟨pre_bl, va_recv hK hPc (ci := 3) (q0 := 0) rfl rfl, fun U hU hW => ⟨rfl, pre_of hX hS hK hPc hDc hFc hU hW⟩⟩ rfl rfl hl.1 rfl (lv_room (Nat.le_of_ble_eq_true rfl)) dX4_readReach_31 ⟨Nat.zero_le _, Nat.zero_le _⟩) hS (fun q _ h => hFc q h) hFc (fun u t H1 locs ht hvm hw hB hz1 hk1 hS => ?_)
  obtain ⟨i_t_place_11, i_t_fault_12⟩ := u
  replace hw : QK i_t_place_11 i_t_fault_12 := hw
  clear hq
  subst eQ
  obtain ⟨hP1, hD1⟩ := hB
  rw [ht] at hP1
  obtain ⟨hP, hD⟩ := va_join (wr := [(a_t_read, .inr (2, [.int i_t_read_reaches, w_t_read_span, w_t_read_sum, w_t_read_odds, .ref a_t_read_bank, .ref a_t_read_mill, .ref a_t_read_hung, .ref a_t_read_water])), (a_t_read_bank, .inl (cyI, 3, .inl f_t_read_bank)), (a_t_read_mill, .inl (cyI, 3, .inl f_t_read_mill)), (a_t_read_hung, .inl (cyI, 3, .inl f_t_read_hung)), (a_t_read_water, .inr (7, [.ref a_t_read_water_level, .ref a_t_read_water_boards, .ref a_t_read_water_way, w_t_read_water_beforeRain, w_t_read_water_hour, w_t_read_water_rainBefore, w_t_read_water_next])), (a_t_read_water_level, .inl (cyI, 3, .inl f_t_read_water_level)), (a_t_read_water_boards, .inl (cyI, 3, .inl f_t_read_water_boards)), (a_t_read_water_way, .inl (cyI, 3, .inl f_t_read_water_way))]) (w1 := [(a_t, .inr (3, [.ref a_t_tape, .int i_t_size, .int i_t_place_11, .int i_t_fault_12, .ref a_t_read])), (a_t_tape, .inl (cyI, 120, .inl f_t_tape))]) hP hD [8, 9] [0, 1, 2, 3, 4, 5, 6, 7] rfl rfl (by decide) (by decide) hk1 hFc hP1 hD1
  clear hPc hDc hFc hk1 hz1 hP1 hD1 ht hvm
  generalize H1 = H at hP hS ⊢
  replace hP : va_P D vwCl [(a_t_read, .inr (2, [.int i_t_read_reaches, w_t_read_span, w_t_read_sum, w_t_read_odds, .ref a_t_read_bank, .ref a_t_read_mill, .ref a_t_read_hung, .ref a_t_read_water])), (a_t_read_bank, .inl (cyI, 3, .inl f_t_read_bank)), (a_t_read_mill, .inl (cyI, 3, .inl f_t_read_mill)), (a_t_read_hung, .inl (cyI, 3, .inl f_t_read_hung)), (a_t_read_water, .inr (7, [.ref a_t_read_water_level, .ref a_t_read_water_boards, .ref a_t_read_water_way, w_t_read_water_beforeRain, w_t_read_water_hour, w_t_read_water_rainBefore, w_t_read_water_next])), (a_t_read_water_level, .inl (cyI, 3, .inl f_t_read_water_level)), (a_t_read_water_boards, .inl (cyI, 3, .inl f_t_read_water_boards)), (a_t_read_water_way, .inl (cyI, 3, .inl f_t_read_water_way)), (a_t, .inr (3, [.ref a_t_tape, .int i_t_size, .int i_t_place_11, .int i_t_fault_12, .ref a_t_read])), (a_t_tape, .inl (cyI, 120, .inl f_t_tape))] H := hP
  replace hD : va_D A [(a_t_read, .inr (2, [.int i_t_read_reaches, w_t_read_span, w_t_read_sum, w_t_read_odds, .ref a_t_read_bank, .ref a_t_read_mill, .ref a_t_read_hung, .ref a_t_read_water])), (a_t_read_bank, .inl (cyI, 3, .inl f_t_read_bank)), (a_t_read_mill, .inl (cyI, 3, .inl f_t_read_mill)), (a_t_read_hung, .inl (cyI, 3, .inl f_t_read_hung)), (a_t_read_water, .inr (7, [.ref a_t_read_water_level, .ref a_t_read_water_boards, .ref a_t_read_water_way, w_t_read_water_beforeRain, w_t_read_water_hour, w_t_read_water_rainBefore, w_t_read_water_next])), (a_t_read_water_level, .inl (cyI, 3, .inl f_t_read_water_level)), (a_t_read_water_boards, .inl (cyI, 3, .inl f_t_read_water_boards)), (a_t_read_water_way, .inl (cyI, 3, .inl f_t_read_water_way)), (a_t, .inr (3, [.ref a_t_tape, .int i_t_size, .int i_t_place_11, .int i_t_fault_12, .ref a_t_read])), (a_t_tape, .inl (cyI, 120, .inl f_t_tape))] := hD
  refine lv_aload_n hx hb dX4_readReach_34 rfl (lv_at hl 2 rfl) ?_
  refine lv_iconst (v := 0) hx hb dX4_readReach_35 (by decide) ?_
  refine lv_bipush (v := 9) hx hb dX4_readReach_36 (by decide) ?_
  obtain ⟨QK, eQ, hq⟩ := genq (P := WX2_digit_X4 0 9 i_t_size i_t_place_11 i_t_fault_12 f_t_tape) hw
  clear hw
  have hPc := hP.sub (ws' := [(a_t, .inr (3, [.ref a_t_tape, .int i_t_size, .int i_t_place_11, .int i_t_fault_12, .ref a_t_read])), (a_t_tape, .inl (cyI, 120, .inl f_t_tape))]) [8, 9] rfl
  have hDc := hD.sub (ws' := [(a_t, .inr (3, [.ref a_t_tape, .int i_t_size, .int i_t_place_11, .int i_t_fault_12, .ref a_t_read])), (a_t_tape, .inl (cyI, 120, .inl f_t_tape))]) [8, 9] (by decide) rfl
  have hFc := va_free (wc := [(a_t, .inr (3, [.ref a_t_tape, .int i_t_size, .int i_t_place_11, .int i_t_fault_12, .ref a_t_read])), (a_t_tape, .inl (cyI, 120, .inl f_t_tape))]) hD hS hA [8, 9] rfl
  refine va_calli (va_runU (As := [.int 0, .int 9]) (rest := []) ⟨hx, hb, hml, hown, hts⟩ (MX2_digit_X4 l D cyI cyZ cyC ro ce cin ad a_t a_t_tape  (.ref a_t_read) H.size 0 9 i_t_size i_t_place_11 i_t_fault_12 f_t_tape QK  hq) (va_cwU 2 hts gX4_readReach_X2_digit_u58X4 rfl rfl rfl rfl dmX2_digitu ⟨Nat.le_of_ble_eq_true rfl, Nat.le_of_ble_eq_true rfl⟩) ⟨pre_bl, va_recv hK hPc (ci := 3) (q0 := 0) rfl rfl, fun U hU hW => ⟨rfl, pre_of hX hS hK hPc hDc hFc hU hW⟩⟩ rfl rfl hl.1 rfl (lv_room (Nat.le_of_ble_eq_true rfl)) dX4_readReach_38 ⟨Nat.zero_le _, Nat.zero_le _⟩) hS (fun q _ h => hFc q h) hFc (fun r13 u t H1 locs ht hvm hw hB hz1 hk1 hS => ?_)
  obtain ⟨i_t_place_14, i_t_fault_15⟩ := u
  replace hw : QK r13 i_t_place_14 i_t_fault_15 := hw
  clear hq
  subst eQ
  obtain ⟨hP1, hD1⟩ := hB
  rw [ht] at hP1
  obtain ⟨hP, hD⟩ := va_join (wr := [(a_t_read, .inr (2, [.int i_t_read_reaches, w_t_read_span, w_t_read_sum, w_t_read_odds, .ref a_t_read_bank, .ref a_t_read_mill, .ref a_t_read_hung, .ref a_t_read_water])), (a_t_read_bank, .inl (cyI, 3, .inl f_t_read_bank)), (a_t_read_mill, .inl (cyI, 3, .inl f_t_read_mill)), (a_t_read_hung, .inl (cyI, 3, .inl f_t_read_hung)), (a_t_read_water, .inr (7, [.ref a_t_read_water_level, .ref a_t_read_water_boards, .ref a_t_read_water_way, w_t_read_water_beforeRain, w_t_read_water_hour, w_t_read_water_rainBefore, w_t_read_water_next])), (a_t_read_water_level, .inl (cyI, 3, .inl f_t_read_water_level)), (a_t_read_water_boards, .inl (cyI, 3, .inl f_t_read_water_boards)), (a_t_read_water_way, .inl (cyI, 3, .inl f_t_read_water_way))]) (w1 := [(a_t, .inr (3, [.ref a_t_tape, .int i_t_size, .int i_t_place_14, .int i_t_fault_15, .ref a_t_read])), (a_t_tape, .inl (cyI, 120, .inl f_t_tape))]) hP hD [8, 9] [0, 1, 2, 3, 4, 5, 6, 7] rfl rfl (by decide) (by decide) hk1 hFc hP1 hD1
  clear hPc hDc hFc hk1 hz1 hP1 hD1 ht hvm
  generalize H1 = H at hP hS ⊢
  replace hP : va_P D vwCl [(a_t_read, .inr (2, [.int i_t_read_reaches, w_t_read_span, w_t_read_sum, w_t_read_odds, .ref a_t_read_bank, .ref a_t_read_mill, .ref a_t_read_hung, .ref a_t_read_water])), (a_t_read_bank, .inl (cyI, 3, .inl f_t_read_bank)), (a_t_read_mill, .inl (cyI, 3, .inl f_t_read_mill)), (a_t_read_hung, .inl (cyI, 3, .inl f_t_read_hung)), (a_t_read_water, .inr (7, [.ref a_t_read_water_level, .ref a_t_read_water_boards, .ref a_t_read_water_way, w_t_read_water_beforeRain, w_t_read_water_hour, w_t_read_water_rainBefore, w_t_read_water_next])), (a_t_read_water_level, .inl (cyI, 3, .inl f_t_read_water_level)), (a_t_read_water_boards, .inl (cyI, 3, .inl f_t_read_water_boards)), (a_t_read_water_way, .inl (cyI, 3, .inl f_t_read_water_way)), (a_t, .inr (3, [.ref a_t_tape, .int i_t_size, .int i_t_place_14, .int i_t_fault_15, .ref a_t_read])), (a_t_tape, .inl (cyI, 120, .inl f_t_tape))] H := hP
  replace hD : va_D A [(a_t_read, .inr (2, [.int i_t_read_reaches, w_t_read_span, w_t_read_sum, w_t_read_odds, .ref a_t_read_bank, .ref a_t_read_mill, .ref a_t_read_hung, .ref a_t_read_water])), (a_t_read_bank, .inl (cyI, 3, .inl f_t_read_bank)), (a_t_read_mill, .inl (cyI, 3, .inl f_t_read_mill)), (a_t_read_hung, .inl (cyI, 3, .inl f_t_read_hung)), (a_t_read_water, .inr (7, [.ref a_t_read_water_level, .ref a_t_read_water_boards, .ref a_t_read_water_way, w_t_read_water_beforeRain, w_t_read_water_hour, w_t_read_water_rainBefore, w_t_read_water_next])), (a_t_read_water_level, .inl (cyI, 3, .inl f_t_read_water_level)), (a_t_read_water_boards, .inl (cyI, 3, .inl f_t_read_water_boards)), (a_t_read_water_way, .inl (cyI, 3, .inl f_t_read_water_way)), (a_t, .inr (3, [.ref a_t_tape, .int i_t_size, .int i_t_place_14, .int i_t_fault_15, .ref a_t_read])), (a_t_tape, .inl (cyI, 120, .inl f_t_tape))] := hD
  refine lv_istore_n (lv' := [(3, .int r13), (2, .int r8), (1, .int r3), (0, .ref a_t)]) hx hb dX4_readReach_41 rfl hl (by decide) rfl (fun ls hl => ?_)
  refine lv_aload_n hx hb dX4_readReach_42 rfl (lv_at hl 3 rfl) ?_
  refine va_get (D := D) (ci := 3) (v := .ref a_t_read) (C := RX4) (T := TX4) (N := 5) hx hb hts inX4_readReach_X4 hown hK hP 8 rfl rfl 4 (by decide) (hts _ (List.mem_of_getElem? (i := 1) rfl)) (fun _ h9 => h9) rfl dX4_readReach_43 ?_
  refine lv_iload_n hx hb dX4_readReach_46 rfl (lv_at hl 2 rfl) ?_
  refine lv_iload_n hx hb dX4_readReach_47 rfl (lv_at hl 1 rfl) ?_
  refine lv_iload_n hx hb dX4_readReach_48 rfl (lv_at hl 0 rfl) ?_
  obtain ⟨QK, eQ, hq⟩ := genq (P := WX3_addReach r3 r8 r13 i_t_read_reaches f_t_read_bank f_t_read_mill f_t_read_hung f_t_read_water_level f_t_read_water_boards f_t_read_water_way) hw
  clear hw
  have hPc := hP.sub (ws' := [(a_t_read, .inr (2, [.int i_t_read_reaches, w_t_read_span, w_t_read_sum, w_t_read_odds, .ref a_t_read_bank, .ref a_t_read_mill, .ref a_t_read_hung, .ref a_t_read_water])), (a_t_read_bank, .inl (cyI, 3, .inl f_t_read_bank)), (a_t_read_mill, .inl (cyI, 3, .inl f_t_read_mill)), (a_t_read_hung, .inl (cyI, 3, .inl f_t_read_hung)), (a_t_read_water, .inr (7, [.ref a_t_read_water_level, .ref a_t_read_water_boards, .ref a_t_read_water_way, w_t_read_water_beforeRain, w_t_read_water_hour, w_t_read_water_rainBefore, w_t_read_water_next])), (a_t_read_water_level, .inl (cyI, 3, .inl f_t_read_water_level)), (a_t_read_water_boards, .inl (cyI, 3, .inl f_t_read_water_boards)), (a_t_read_water_way, .inl (cyI, 3, .inl f_t_read_water_way))]) [0, 1, 2, 3, 4, 5, 6, 7] rfl
  have hDc := hD.sub (ws' := [(a_t_read, .inr (2, [.int i_t_read_reaches, w_t_read_span, w_t_read_sum, w_t_read_odds, .ref a_t_read_bank, .ref a_t_read_mill, .ref a_t_read_hung, .ref a_t_read_water])), (a_t_read_bank, .inl (cyI, 3, .inl f_t_read_bank)), (a_t_read_mill, .inl (cyI, 3, .inl f_t_read_mill)), (a_t_read_hung, .inl (cyI, 3, .inl f_t_read_hung)), (a_t_read_water, .inr (7, [.ref a_t_read_water_level, .ref a_t_read_water_boards, .ref a_t_read_water_way, w_t_read_water_beforeRain, w_t_read_water_hour, w_t_read_water_rainBefore, w_t_read_water_next])), (a_t_read_water_level, .inl (cyI, 3, .inl f_t_read_water_level)), (a_t_read_water_boards, .inl (cyI, 3, .inl f_t_read_water_boards)), (a_t_read_water_way, .inl (cyI, 3, .inl f_t_read_water_way))]) [0, 1, 2, 3, 4, 5, 6, 7] (by decide) rfl
  have hFc := va_free (wc := [(a_t_read, .inr (2, [.int i_t_read_reaches, w_t_read_span, w_t_read_sum, w_t_read_odds, .ref a_t_read_bank, .ref a_t_read_mill, .ref a_t_read_hung, .ref a_t_read_water])), (a_t_read_bank, .inl (cyI, 3, .inl f_t_read_bank)), (a_t_read_mill, .inl (cyI, 3, .inl f_t_read_mill)), (a_t_read_hung, .inl (cyI, 3, .inl f_t_read_hung)), (a_t_read_water, .inr (7, [.ref a_t_read_water_level, .ref a_t_read_water_boards, .ref a_t_read_water_way, w_t_read_water_beforeRain, w_t_read_water_hour, w_t_read_water_rainBefore, w_t_read_water_next])), (a_t_read_water_level, .inl (cyI, 3, .inl f_t_read_water_level)), (a_t_read_water_boards, .inl (cyI, 3, .inl f_t_read_water_boards)), (a_t_read_water_way, .inl (cyI, 3, .inl f_t_read_water_way))]) hD hS hA [0, 1, 2, 3, 4, 5, 6, 7] rfl
  refine va_callv (va_runV (As := [.int r3, .int r8, .int r13]) (rest := []) ⟨hx, hb, hml, hown, hts⟩ (MX3_addReach l D cyI cyZ cyC ro ce cin ad a_t_read a_t_read_bank a_t_read_mill a_t_read_hung a_t_read_water a_t_read_water_level a_t_read_water_boards a_t_read_water_way  (w_t_read_span) (w_t_read_sum) (w_t_read_odds) (w_t_read_water_beforeRain) (w_t_read_water_hour) (w_t_read_water_rainBefore) (w_t_read_water_next) H.size r3 r8 r13 i_t_read_reaches f_t_read_bank f_t_read_mill f_t_read_hung f_t_read_water_level f_t_read_water_boards f_t_read_water_way QK  hq) (cwV 3 hts gX4_readReach_X3_addReach rfl rfl rfl ⟨rfl, dmX3_addReach⟩ ⟨Nat.le_of_ble_eq_true rfl, Nat.le_of_ble_eq_true rfl⟩) ⟨pre_bl, va_recv hK hPc (ci := 2) (q0 := 0) rfl rfl, fun U hU hW => ⟨rfl, pre_of hX hS hK hPc hDc hFc hU hW⟩⟩ rfl rfl hl.1 rfl (lv_room (Nat.le_of_ble_eq_true rfl)) dX4_readReach_49 ⟨Nat.zero_le _, Nat.zero_le _⟩) hS (fun q _ h => hFc q h) hFc (fun u t H1 locs ht hvm hw hB hz1 hk1 hS => ?_)
  obtain ⟨i_t_read_reaches_16, f_t_read_bank_17, f_t_read_mill_18, f_t_read_hung_19, f_t_read_water_level_20, f_t_read_water_boards_21, f_t_read_water_way_22⟩ := u
  replace hw : QK i_t_read_reaches_16 f_t_read_bank_17 f_t_read_mill_18 f_t_read_hung_19 f_t_read_water_level_20 f_t_read_water_boards_21 f_t_read_water_way_22 := hw
  clear hq
  subst eQ
  obtain ⟨hP1, hD1⟩ := hB
  rw [ht] at hP1
  obtain ⟨hP, hD⟩ := va_join (wr := [(a_t, .inr (3, [.ref a_t_tape, .int i_t_size, .int i_t_place_14, .int i_t_fault_15, .ref a_t_read])), (a_t_tape, .inl (cyI, 120, .inl f_t_tape))]) (w1 := [(a_t_read, .inr (2, [.int i_t_read_reaches_16, w_t_read_span, w_t_read_sum, w_t_read_odds, .ref a_t_read_bank, .ref a_t_read_mill, .ref a_t_read_hung, .ref a_t_read_water])), (a_t_read_bank, .inl (cyI, 3, .inl f_t_read_bank_17)), (a_t_read_mill, .inl (cyI, 3, .inl f_t_read_mill_18)), (a_t_read_hung, .inl (cyI, 3, .inl f_t_read_hung_19)), (a_t_read_water, .inr (7, [.ref a_t_read_water_level, .ref a_t_read_water_boards, .ref a_t_read_water_way, w_t_read_water_beforeRain, w_t_read_water_hour, w_t_read_water_rainBefore, w_t_read_water_next])), (a_t_read_water_level, .inl (cyI, 3, .inl f_t_read_water_level_20)), (a_t_read_water_boards, .inl (cyI, 3, .inl f_t_read_water_boards_21)), (a_t_read_water_way, .inl (cyI, 3, .inl f_t_read_water_way_22))]) hP hD [0, 1, 2, 3, 4, 5, 6, 7] [8, 9] rfl rfl (by decide) (by decide) hk1 hFc hP1 hD1
  clear hPc hDc hFc hk1 hz1 hP1 hD1 ht hvm
  generalize H1 = H at hP hS ⊢
  replace hP : va_P D vwCl [(a_t, .inr (3, [.ref a_t_tape, .int i_t_size, .int i_t_place_14, .int i_t_fault_15, .ref a_t_read])), (a_t_tape, .inl (cyI, 120, .inl f_t_tape)), (a_t_read, .inr (2, [.int i_t_read_reaches_16, w_t_read_span, w_t_read_sum, w_t_read_odds, .ref a_t_read_bank, .ref a_t_read_mill, .ref a_t_read_hung, .ref a_t_read_water])), (a_t_read_bank, .inl (cyI, 3, .inl f_t_read_bank_17)), (a_t_read_mill, .inl (cyI, 3, .inl f_t_read_mill_18)), (a_t_read_hung, .inl (cyI, 3, .inl f_t_read_hung_19)), (a_t_read_water, .inr (7, [.ref a_t_read_water_level, .ref a_t_read_water_boards, .ref a_t_read_water_way, w_t_read_water_beforeRain, w_t_read_water_hour, w_t_read_water_rainBefore, w_t_read_water_next])), (a_t_read_water_level, .inl (cyI, 3, .inl f_t_read_water_level_20)), (a_t_read_water_boards, .inl (cyI, 3, .inl f_t_read_water_boards_21)), (a_t_read_water_way, .inl (cyI, 3, .inl f_t_read_water_way_22))] H := hP
  replace hD : va_D A [(a_t, .inr (3, [.ref a_t_tape, .int i_t_size, .int i_t_place_14, .int i_t_fault_15, .ref a_t_read])), (a_t_tape, .inl (cyI, 120, .inl f_t_tape)), (a_t_read, .inr (2, [.int i_t_read_reaches_16, w_t_read_span, w_t_read_sum, w_t_read_odds, .ref a_t_read_bank, .ref a_t_read_mill, .ref a_t_read_hung, .ref a_t_read_water])), (a_t_read_bank, .inl (cyI, 3, .inl f_t_read_bank_17)), (a_t_read_mill, .inl (cyI, 3, .inl f_t_read_mill_18)), (a_t_read_hung, .inl (cyI, 3, .inl f_t_read_hung_19)), (a_t_read_water, .inr (7, [.ref a_t_read_water_level, .ref a_t_read_water_boards, .ref a_t_read_water_way, w_t_read_water_beforeRain, w_t_read_water_hour, w_t_read_water_rainBefore, w_t_read_water_next])), (a_t_read_water_level, .inl (cyI, 3, .inl f_t_read_water_level_20)), (a_t_read_water_boards, .inl (cyI, 3, .inl f_t_read_water_boards_21)), (a_t_read_water_way, .inl (cyI, 3, .inl f_t_read_water_way_22))] := hD
  exact W.vret hx hb hr (fun t ht hW => ⟨⟨(i_t_place_14, i_t_fault_15, i_t_read_reaches_16, f_t_read_bank_17, f_t_read_mill_18, f_t_read_hung_19, f_t_read_water_level_20, f_t_read_water_boards_21, f_t_read_water_way_22), rfl, hw, post_mk ht hP hD⟩, hS.F ht⟩) hS.2.2 dX4_readReach_52 hlocks
set_option maxHeartbeats 8000000 in
set_option maxRecDepth 100000 in
theorem MX4_readClause (l : Launch) (D : va_G) (cyI cyZ cyC : ClassId) (ro : va_W) (ce : Nat → CT) (cin : Nat → Prop) (ad : AD) (a_t a_t_tape a_t_read a_t_read_bank a_t_read_mill a_t_read_hung a_t_read_water a_t_read_water_level a_t_read_water_boards a_t_read_water_way : Nat) (w_t_read_water_beforeRain w_t_read_water_hour w_t_read_water_rainBefore w_t_read_water_next : Value) (sz : Nat) (i_t_size : Int32) (i_t_place : Int32) (i_t_fault : Int32) (f_t_tape : Nat → Int32) (i_t_read_reaches : Int32) (i_t_read_span : Int32) (i_t_read_sum : Int32) (i_t_read_odds : Int32) (f_t_read_bank : Nat → Int32) (f_t_read_mill : Nat → Int32) (f_t_read_hung : Nat → Int32) (f_t_read_water_level : Nat → Int32) (f_t_read_water_boards : Nat → Int32) (f_t_read_water_way : Nat → Int32) (Q : Int32 → Int32 → Int32 → Int32 → Int32 → Int32 → (Nat → Int32) → (Nat → Int32) → (Nat → Int32) → (Nat → Int32) → (Nat → Int32) → (Nat → Int32) → Prop)  (hw : WX4_readClause i_t_size i_t_place i_t_fault f_t_tape i_t_read_reaches i_t_read_span i_t_read_sum i_t_read_odds f_t_read_bank f_t_read_mill f_t_read_hung f_t_read_water_level f_t_read_water_boards f_t_read_water_way Q) : Met l yX4_readClause wsX4_readClause ({ frames := 7, cells := 0, slots := 0, locals := 151 }) (va_Pc [.ref a_t] (PRE D cyI cyZ cyC ro ce cin ad (SX4_readClause cyI cyZ cyC a_t a_t_tape a_t_read a_t_read_bank a_t_read_mill a_t_read_hung a_t_read_water a_t_read_water_level a_t_read_water_boards a_t_read_water_way w_t_read_water_beforeRain w_t_read_water_hour w_t_read_water_rainBefore w_t_read_water_next  i_t_size i_t_place i_t_fault f_t_tape i_t_read_reaches i_t_read_span i_t_read_sum i_t_read_odds f_t_read_bank f_t_read_mill f_t_read_hung f_t_read_water_level f_t_read_water_boards f_t_read_water_way) sz)) (va_Qv (fun (u : Int32 × Int32 × Int32 × Int32 × Int32 × Int32 × (Nat → Int32) × (Nat → Int32) × (Nat → Int32) × (Nat → Int32) × (Nat → Int32) × (Nat → Int32)) => Q u.1 u.2.1 u.2.2.1 u.2.2.2.1 u.2.2.2.2.1 u.2.2.2.2.2.1 u.2.2.2.2.2.2.1 u.2.2.2.2.2.2.2.1 u.2.2.2.2.2.2.2.2.1 u.2.2.2.2.2.2.2.2.2.1 u.2.2.2.2.2.2.2.2.2.2.1 u.2.2.2.2.2.2.2.2.2.2.2) (fun (u : Int32 × Int32 × Int32 × Int32 × Int32 × Int32 × (Nat → Int32) × (Nat → Int32) × (Nat → Int32) × (Nat → Int32) × (Nat → Int32) × (Nat → Int32)) (t : State) => POST D (va_A (SX4_readClause cyI cyZ cyC a_t a_t_tape a_t_read a_t_read_bank a_t_read_mill a_t_read_hung a_t_read_water a_t_read_water_level a_t_read_water_boards a_t_read_water_way w_t_read_water_beforeRain w_t_read_water_hour w_t_read_water_rainBefore w_t_read_water_next  i_t_size i_t_place i_t_fault f_t_tape i_t_read_reaches i_t_read_span i_t_read_sum i_t_read_odds f_t_read_bank f_t_read_mill f_t_read_hung f_t_read_water_level f_t_read_water_boards f_t_read_water_way) sz) (SX4_readClause cyI cyZ cyC a_t a_t_tape a_t_read a_t_read_bank a_t_read_mill a_t_read_hung a_t_read_water a_t_read_water_level a_t_read_water_boards a_t_read_water_way w_t_read_water_beforeRain w_t_read_water_hour w_t_read_water_rainBefore w_t_read_water_next  i_t_size u.1 u.2.1 f_t_tape u.2.2.1 u.2.2.2.1 u.2.2.2.2.1 u.2.2.2.2.2.1 u.2.2.2.2.2.2.1 u.2.2.2.2.2.2.2.1 u.2.2.2.2.2.2.2.2.1 u.2.2.2.2.2.2.2.2.2.1 u.2.2.2.2.2.2.2.2.2.2.1 u.2.2.2.2.2.2.2.2.2.2.2) t) (va_A (SX4_readClause cyI cyZ cyC a_t a_t_tape a_t_read a_t_read_bank a_t_read_mill a_t_read_hung a_t_read_water a_t_read_water_level a_t_read_water_boards a_t_read_water_way w_t_read_water_beforeRain w_t_read_water_hour w_t_read_water_rainBefore w_t_read_water_next  i_t_size i_t_place i_t_fault f_t_tape i_t_read_reaches i_t_read_span i_t_read_sum i_t_read_odds f_t_read_bank f_t_read_mill f_t_read_hung f_t_read_water_level f_t_read_water_boards f_t_read_water_way) sz)) 0 0 (va_A (SX4_readClause cyI cyZ cyC a_t a_t_tape a_t_read a_t_read_bank a_t_read_mill a_t_read_hung a_t_read_water a_t_read_water_level a_t_read_water_boards a_t_read_water_way w_t_read_water_beforeRain w_t_read_water_hour w_t_read_water_rainBefore w_t_read_water_next  i_t_size i_t_place i_t_fault f_t_tape i_t_read_reaches i_t_read_span i_t_read_sum i_t_read_odds f_t_read_bank f_t_read_mill f_t_read_hung f_t_read_water_level f_t_read_water_boards f_t_read_water_way) sz) := by
  refine Met.ofW (cc := cX4_readClause) (maxL := 1) (ret := none) (by decide +kernel) rfl ?_
  intro p e s m args below meth c s₁ B hml hv
  obtain ⟨rfl, hsz, hP, hK, hD0, hX⟩ := hv
  have hx := B.exec
  have hb := B.bytes
  have hr := B.returns
  have hts := atoms_spec (ws := wsX4_readClause) B.pre
  have hown : s.vm.findClass RX4 = some m.cls := findClass_of_methodNamed B.named
  have hlocks := B.notSynchronized
  clear B
  subst hsz
  have hD := hD0.self (sz := s.heap.size)
  clear hD0
  generalize hAe : va_A (SX4_readClause cyI cyZ cyC a_t a_t_tape a_t_read a_t_read_bank a_t_read_mill a_t_read_hung a_t_read_water a_t_read_water_level a_t_read_water_boards a_t_read_water_way w_t_read_water_beforeRain w_t_read_water_hour w_t_read_water_rainBefore w_t_read_water_next  i_t_size i_t_place i_t_fault f_t_tape i_t_read_reaches i_t_read_span i_t_read_sum i_t_read_odds f_t_read_bank f_t_read_mill f_t_read_hung f_t_read_water_level f_t_read_water_boards f_t_read_water_way) s.heap.size = A at hD hX ⊢
  have hA : ∀ q : Nat, s.heap.size ≤ q → A q := fun q h => by rw [← hAe]; exact Or.inr h
  clear hAe
  obtain ⟨H, hH⟩ : ∃ H, H = s.heap := ⟨_, rfl⟩
  rw [← hH] at hP ⊢
  have hS : va_S A s.heap H [] := by rw [hH]; exact va_S.rf
  clear hH
  replace hP : va_P D vwCl [(a_t, .inr (3, [.ref a_t_tape, .int i_t_size, .int i_t_place, .int i_t_fault, .ref a_t_read])), (a_t_tape, .inl (cyI, 120, .inl f_t_tape)), (a_t_read, .inr (2, [.int i_t_read_reaches, .int i_t_read_span, .int i_t_read_sum, .int i_t_read_odds, .ref a_t_read_bank, .ref a_t_read_mill, .ref a_t_read_hung, .ref a_t_read_water])), (a_t_read_bank, .inl (cyI, 3, .inl f_t_read_bank)), (a_t_read_mill, .inl (cyI, 3, .inl f_t_read_mill)), (a_t_read_hung, .inl (cyI, 3, .inl f_t_read_hung)), (a_t_read_water, .inr (7, [.ref a_t_read_water_level, .ref a_t_read_water_boards, .ref a_t_read_water_way, w_t_read_water_beforeRain, w_t_read_water_hour, w_t_read_water_rainBefore, w_t_read_water_next])), (a_t_read_water_level, .inl (cyI, 3, .inl f_t_read_water_level)), (a_t_read_water_boards, .inl (cyI, 3, .inl f_t_read_water_boards)), (a_t_read_water_way, .inl (cyI, 3, .inl f_t_read_water_way))] H := hP
  replace hD : va_D A [(a_t, .inr (3, [.ref a_t_tape, .int i_t_size, .int i_t_place, .int i_t_fault, .ref a_t_read])), (a_t_tape, .inl (cyI, 120, .inl f_t_tape)), (a_t_read, .inr (2, [.int i_t_read_reaches, .int i_t_read_span, .int i_t_read_sum, .int i_t_read_odds, .ref a_t_read_bank, .ref a_t_read_mill, .ref a_t_read_hung, .ref a_t_read_water])), (a_t_read_bank, .inl (cyI, 3, .inl f_t_read_bank)), (a_t_read_mill, .inl (cyI, 3, .inl f_t_read_mill)), (a_t_read_hung, .inl (cyI, 3, .inl f_t_read_hung)), (a_t_read_water, .inr (7, [.ref a_t_read_water_level, .ref a_t_read_water_boards, .ref a_t_read_water_way, w_t_read_water_beforeRain, w_t_read_water_hour, w_t_read_water_rainBefore, w_t_read_water_next])), (a_t_read_water_level, .inl (cyI, 3, .inl f_t_read_water_level)), (a_t_read_water_boards, .inl (cyI, 3, .inl f_t_read_water_boards)), (a_t_read_water_way, .inl (cyI, 3, .inl f_t_read_water_way))] := hD
  have hl := lv_entry ([.ref a_t]) (n := 1) (Nat.le_of_ble_eq_true rfl)
  rw [lg_entry_eq]
  generalize (lg_sl ([.ref a_t]) ++ List.replicate (1 - (lg_sl ([.ref a_t])).length) Slot.unset).toArray = ls at hl ⊢
  replace hl : lv_has ls 1 [(0, .ref a_t)] := hl
  have B27 : ∀ (i_t_place : Int32) (i_t_fault : Int32) (i_t_read_reaches : Int32) (i_t_read_span : Int32) (i_t_read_sum : Int32) (i_t_read_odds : Int32) (f_t_read_bank : Nat → Int32) (f_t_read_mill : Nat → Int32) (f_t_read_hung : Nat → Int32) (f_t_read_water_level : Nat → Int32) (f_t_read_water_boards : Nat → Int32) (f_t_read_water_way : Nat → Int32), WX4_readClause_27 i_t_size f_t_tape i_t_place i_t_fault i_t_read_reaches i_t_read_span i_t_read_sum i_t_read_odds f_t_read_bank f_t_read_mill f_t_read_hung f_t_read_water_level f_t_read_water_boards f_t_read_water_way Q  → ∀ (H : Heap) (locs : List Loc), va_P D vwCl [(a_t, .inr (3, [.ref a_t_tape, .int i_t_size, .int i_t_place, .int i_t_fault, .ref a_t_read])), (a_t_tape, .inl (cyI, 120, .inl f_t_tape)), (a_t_read, .inr (2, [.int i_t_read_reaches, .int i_t_read_span, .int i_t_read_sum, .int i_t_read_odds, .ref a_t_read_bank, .ref a_t_read_mill, .ref a_t_read_hung, .ref a_t_read_water])), (a_t_read_bank, .inl (cyI, 3, .inl f_t_read_bank)), (a_t_read_mill, .inl (cyI, 3, .inl f_t_read_mill)), (a_t_read_hung, .inl (cyI, 3, .inl f_t_read_hung)), (a_t_read_water, .inr (7, [.ref a_t_read_water_level, .ref a_t_read_water_boards, .ref a_t_read_water_way, w_t_read_water_beforeRain, w_t_read_water_hour, w_t_read_water_rainBefore, w_t_read_water_next])), (a_t_read_water_level, .inl (cyI, 3, .inl f_t_read_water_level)), (a_t_read_water_boards, .inl (cyI, 3, .inl f_t_read_water_boards)), (a_t_read_water_way, .inl (cyI, 3, .inl f_t_read_water_way))] H → va_D A [(a_t, .inr (3, [.ref a_t_tape, .int i_t_size, .int i_t_place, .int i_t_fault, .ref a_t_read])), (a_t_tape, .inl (cyI, 120, .inl f_t_tape)), (a_t_read, .inr (2, [.int i_t_read_reaches, .int i_t_read_span, .int i_t_read_sum, .int i_t_read_odds, .ref a_t_read_bank, .ref a_t_read_mill, .ref a_t_read_hung, .ref a_t_read_water])), (a_t_read_bank, .inl (cyI, 3, .inl f_t_read_bank)), (a_t_read_mill, .inl (cyI, 3, .inl f_t_read_mill)), (a_t_read_hung, .inl (cyI, 3, .inl f_t_read_hung)), (a_t_read_water, .inr (7, [.ref a_t_read_water_level, .ref a_t_read_water_boards, .ref a_t_read_water_way, w_t_read_water_beforeRain, w_t_read_water_hour, w_t_read_water_rainBefore, w_t_read_water_next])), (a_t_read_water_level, .inl (cyI, 3, .inl f_t_read_water_level)), (a_t_read_water_boards, .inl (cyI, 3, .inl f_t_read_water_boards)), (a_t_read_water_way, .inl (cyI, 3, .inl f_t_read_water_way))] → va_S A s.heap H locs → ∀ (ls : Array Slot), lv_has ls 1 [(0, .ref a_t)] → W p l e { frames := 7, cells := 0, slots := 0, locals := 151 } s m ([.ref a_t] : List Value).toArray below meth c H locs 0 0 (MQ below (va_Qv (fun (u : Int32 × Int32 × Int32 × Int32 × Int32 × Int32 × (Nat → Int32) × (Nat → Int32) × (Nat → Int32) × (Nat → Int32) × (Nat → Int32) × (Nat → Int32)) => Q u.1 u.2.1 u.2.2.1 u.2.2.2.1 u.2.2.2.2.1 u.2.2.2.2.2.1 u.2.2.2.2.2.2.1 u.2.2.2.2.2.2.2.1 u.2.2.2.2.2.2.2.2.1 u.2.2.2.2.2.2.2.2.2.1 u.2.2.2.2.2.2.2.2.2.2.1 u.2.2.2.2.2.2.2.2.2.2.2) (fun (u : Int32 × Int32 × Int32 × Int32 × Int32 × Int32 × (Nat → Int32) × (Nat → Int32) × (Nat → Int32) × (Nat → Int32) × (Nat → Int32) × (Nat → Int32)) (t : State) => POST D A (SX4_readClause cyI cyZ cyC a_t a_t_tape a_t_read a_t_read_bank a_t_read_mill a_t_read_hung a_t_read_water a_t_read_water_level a_t_read_water_boards a_t_read_water_way w_t_read_water_beforeRain w_t_read_water_hour w_t_read_water_rainBefore w_t_read_water_next  i_t_size u.1 u.2.1 f_t_tape u.2.2.1 u.2.2.2.1 u.2.2.2.2.1 u.2.2.2.2.2.1 u.2.2.2.2.2.2.1 u.2.2.2.2.2.2.2.1 u.2.2.2.2.2.2.2.2.1 u.2.2.2.2.2.2.2.2.2.1 u.2.2.2.2.2.2.2.2.2.2.1 u.2.2.2.2.2.2.2.2.2.2.2) t) A) ([.ref a_t] : List Value).toArray s 0 0 A) (F0 m 27 ls []) := by
    intro i_t_place i_t_fault i_t_read_reaches i_t_read_span i_t_read_sum i_t_read_odds f_t_read_bank f_t_read_mill f_t_read_hung f_t_read_water_level f_t_read_water_boards f_t_read_water_way hw H locs hP hD hS ls hl
    unfold WX4_readClause_27 at hw
    refine lv_aload_n hx hb dX4_readClause_27 rfl (lv_at hl 0 rfl) ?_
    refine lv_bipush (v := 111) hx hb dX4_readClause_28 (by decide) ?_
    obtain ⟨QK, eQ, hq⟩ := genq (P := WX2_takes_X4 111 i_t_size i_t_place i_t_fault f_t_tape) hw
    clear hw
    have hPc := hP.sub (ws' := [(a_t, .inr (3, [.ref a_t_tape, .int i_t_size, .int i_t_place, .int i_t_fault, .ref a_t_read])), (a_t_tape, .inl (cyI, 120, .inl f_t_tape))]) [0, 1] rfl
    have hDc := hD.sub (ws' := [(a_t, .inr (3, [.ref a_t_tape, .int i_t_size, .int i_t_place, .int i_t_fault, .ref a_t_read])), (a_t_tape, .inl (cyI, 120, .inl f_t_tape))]) [0, 1] (by decide) rfl
    have hFc := va_free (wc := [(a_t, .inr (3, [.ref a_t_tape, .int i_t_size, .int i_t_place, .int i_t_fault, .ref a_t_read])), (a_t_tape, .inl (cyI, 120, .inl f_t_tape))]) hD hS hA [0, 1] rfl
    refine va_calli (va_runU (As := [.int 111]) (rest := []) ⟨hx, hb, hml, hown, hts⟩ (MX2_takes_X4 l D cyI cyZ cyC ro ce cin ad a_t a_t_tape  (.ref a_t_read) H.size 111 i_t_size i_t_place i_t_fault f_t_tape QK  hq) (va_cwU 1 hts gX4_readClause_X2_takes_u28X4 rfl rfl rfl rfl dmX2_takesu ⟨Nat.le_of_ble_eq_true rfl, Nat.le_of_ble_eq_true rfl⟩) ⟨pre_bl, va_recv hK hPc (ci := 3) (q0 := 0) rfl rfl, fun U hU hW => ⟨rfl, pre_of hX hS hK hPc hDc hFc hU hW⟩⟩ rfl rfl hl.1 rfl (lv_room (Nat.le_of_ble_eq_true rfl)) dX4_readClause_30 ⟨Nat.zero_le _, Nat.zero_le _⟩) hS (fun q _ h => hFc q h) hFc (fun r3 u t H1 locs ht hvm hw hB hz1 hk1 hS => ?_)
    obtain ⟨i_t_place_4, rfl⟩ : ∃ z, z = u := ⟨u, rfl⟩
    replace hw : QK r3 i_t_place_4 := hw
    clear hq
    subst eQ
    obtain ⟨hP1, hD1⟩ := hB
    rw [ht] at hP1
    obtain ⟨hP, hD⟩ := va_join (wr := [(a_t_read, .inr (2, [.int i_t_read_reaches, .int i_t_read_span, .int i_t_read_sum, .int i_t_read_odds, .ref a_t_read_bank, .ref a_t_read_mill, .ref a_t_read_hung, .ref a_t_read_water])), (a_t_read_bank, .inl (cyI, 3, .inl f_t_read_bank)), (a_t_read_mill, .inl (cyI, 3, .inl f_t_read_mill)), (a_t_read_hung, .inl (cyI, 3, .inl f_t_read_hung)), (a_t_read_water, .inr (7, [.ref a_t_read_water_level, .ref a_t_read_water_boards, .ref a_t_read_water_way, w_t_read_water_beforeRain, w_t_read_water_hour, w_t_read_water_rainBefore, w_t_read_water_next])), (a_t_read_water_level, .inl (cyI, 3, .inl f_t_read_water_level)), (a_t_read_water_boards, .inl (cyI, 3, .inl f_t_read_water_boards)), (a_t_read_water_way, .inl (cyI, 3, .inl f_t_read_water_way))]) (w1 := [(a_t, .inr (3, [.ref a_t_tape, .int i_t_size, .int i_t_place_4, .int i_t_fault, .ref a_t_read])), (a_t_tape, .inl (cyI, 120, .inl f_t_tape))]) hP hD [0, 1] [2, 3, 4, 5, 6, 7, 8, 9] rfl rfl (by decide) (by decide) hk1 hFc hP1 hD1
    clear hPc hDc hFc hk1 hz1 hP1 hD1 ht hvm
    generalize H1 = H at hP hS ⊢
    replace hP : va_P D vwCl [(a_t_read, .inr (2, [.int i_t_read_reaches, .int i_t_read_span, .int i_t_read_sum, .int i_t_read_odds, .ref a_t_read_bank, .ref a_t_read_mill, .ref a_t_read_hung, .ref a_t_read_water])), (a_t_read_bank, .inl (cyI, 3, .inl f_t_read_bank)), (a_t_read_mill, .inl (cyI, 3, .inl f_t_read_mill)), (a_t_read_hung, .inl (cyI, 3, .inl f_t_read_hung)), (a_t_read_water, .inr (7, [.ref a_t_read_water_level, .ref a_t_read_water_boards, .ref a_t_read_water_way, w_t_read_water_beforeRain, w_t_read_water_hour, w_t_read_water_rainBefore, w_t_read_water_next])), (a_t_read_water_level, .inl (cyI, 3, .inl f_t_read_water_level)), (a_t_read_water_boards, .inl (cyI, 3, .inl f_t_read_water_boards)), (a_t_read_water_way, .inl (cyI, 3, .inl f_t_read_water_way)), (a_t, .inr (3, [.ref a_t_tape, .int i_t_size, .int i_t_place_4, .int i_t_fault, .ref a_t_read])), (a_t_tape, .inl (cyI, 120, .inl f_t_tape))] H := hP
    replace hD : va_D A [(a_t_read, .inr (2, [.int i_t_read_reaches, .int i_t_read_span, .int i_t_read_sum, .int i_t_read_odds, .ref a_t_read_bank, .ref a_t_read_mill, .ref a_t_read_hung, .ref a_t_read_water])), (a_t_read_bank, .inl (cyI, 3, .inl f_t_read_bank)), (a_t_read_mill, .inl (cyI, 3, .inl f_t_read_mill)), (a_t_read_hung, .inl (cyI, 3, .inl f_t_read_hung)), (a_t_read_water, .inr (7, [.ref a_t_read_water_level, .ref a_t_read_water_boards, .ref a_t_read_water_way, w_t_read_water_beforeRain, w_t_read_water_hour, w_t_read_water_rainBefore, w_t_read_water_next])), (a_t_read_water_level, .inl (cyI, 3, .inl f_t_read_water_level)), (a_t_read_water_boards, .inl (cyI, 3, .inl f_t_read_water_boards)), (a_t_read_water_way, .inl (cyI, 3, .inl f_t_read_water_way)), (a_t, .inr (3, [.ref a_t_tape, .int i_t_size, .int i_t_place_4, .int i_t_fault, .ref a_t_read])), (a_t_tape, .inl (cyI, 120, .inl f_t_tape))] := hD
    refine lv_if_eq (tgt := 59) hx hb dX4_readClause_33 (by decide) (fun c5 => ?_) (fun c5 => ?_)
    · replace hw := hw.1 c5
      refine lv_aload_n hx hb dX4_readClause_59 rfl (lv_at hl 0 rfl) ?_
      refine lv_bipush (v := 115) hx hb dX4_readClause_60 (by decide) ?_
      obtain ⟨QK, eQ, hq⟩ := genq (P := WX2_takes_X4 115 i_t_size i_t_place_4 i_t_fault f_t_tape) hw
      clear hw
      have hPc := hP.sub (ws' := [(a_t, .inr (3, [.ref a_t_tape, .int i_t_size, .int i_t_place_4, .int i_t_fault, .ref a_t_read])), (a_t_tape, .inl (cyI, 120, .inl f_t_tape))]) [8, 9] rfl
      have hDc := hD.sub (ws' := [(a_t, .inr (3, [.ref a_t_tape, .int i_t_size, .int i_t_place_4, .int i_t_fault, .ref a_t_read])), (a_t_tape, .inl (cyI, 120, .inl f_t_tape))]) [8, 9] (by decide) rfl
      have hFc := va_free (wc := [(a_t, .inr (3, [.ref a_t_tape, .int i_t_size, .int i_t_place_4, .int i_t_fault, .ref a_t_read])), (a_t_tape, .inl (cyI, 120, .inl f_t_tape))]) hD hS hA [8, 9] rfl
      refine va_calli (va_runU (As := [.int 115]) (rest := []) ⟨hx, hb, hml, hown, hts⟩ (MX2_takes_X4 l D cyI cyZ cyC ro ce cin ad a_t a_t_tape  (.ref a_t_read) H.size 115 i_t_size i_t_place_4 i_t_fault f_t_tape QK  hq) (va_cwU 1 hts gX4_readClause_X2_takes_u28X4 rfl rfl rfl rfl dmX2_takesu ⟨Nat.le_of_ble_eq_true rfl, Nat.le_of_ble_eq_true rfl⟩) ⟨pre_bl, va_recv hK hPc (ci := 3) (q0 := 0) rfl rfl, fun U hU hW => ⟨rfl, pre_of hX hS hK hPc hDc hFc hU hW⟩⟩ rfl rfl hl.1 rfl (lv_room (Nat.le_of_ble_eq_true rfl)) dX4_readClause_62 ⟨Nat.zero_le _, Nat.zero_le _⟩) hS (fun q _ h => hFc q h) hFc (fun r6 u t H1 locs ht hvm hw hB hz1 hk1 hS => ?_)
      obtain ⟨i_t_place_7, rfl⟩ : ∃ z, z = u := ⟨u, rfl⟩
      replace hw : QK r6 i_t_place_7 := hw
      clear hq
      subst eQ
      obtain ⟨hP1, hD1⟩ := hB
      rw [ht] at hP1
      obtain ⟨hP, hD⟩ := va_join (wr := [(a_t_read, .inr (2, [.int i_t_read_reaches, .int i_t_read_span, .int i_t_read_sum, .int i_t_read_odds, .ref a_t_read_bank, .ref a_t_read_mill, .ref a_t_read_hung, .ref a_t_read_water])), (a_t_read_bank, .inl (cyI, 3, .inl f_t_read_bank)), (a_t_read_mill, .inl (cyI, 3, .inl f_t_read_mill)), (a_t_read_hung, .inl (cyI, 3, .inl f_t_read_hung)), (a_t_read_water, .inr (7, [.ref a_t_read_water_level, .ref a_t_read_water_boards, .ref a_t_read_water_way, w_t_read_water_beforeRain, w_t_read_water_hour, w_t_read_water_rainBefore, w_t_read_water_next])), (a_t_read_water_level, .inl (cyI, 3, .inl f_t_read_water_level)), (a_t_read_water_boards, .inl (cyI, 3, .inl f_t_read_water_boards)), (a_t_read_water_way, .inl (cyI, 3, .inl f_t_read_water_way))]) (w1 := [(a_t, .inr (3, [.ref a_t_tape, .int i_t_size, .int i_t_place_7, .int i_t_fault, .ref a_t_read])), (a_t_tape, .inl (cyI, 120, .inl f_t_tape))]) hP hD [8, 9] [0, 1, 2, 3, 4, 5, 6, 7] rfl rfl (by decide) (by decide) hk1 hFc hP1 hD1
      clear hPc hDc hFc hk1 hz1 hP1 hD1 ht hvm
      generalize H1 = H at hP hS ⊢
      replace hP : va_P D vwCl [(a_t_read, .inr (2, [.int i_t_read_reaches, .int i_t_read_span, .int i_t_read_sum, .int i_t_read_odds, .ref a_t_read_bank, .ref a_t_read_mill, .ref a_t_read_hung, .ref a_t_read_water])), (a_t_read_bank, .inl (cyI, 3, .inl f_t_read_bank)), (a_t_read_mill, .inl (cyI, 3, .inl f_t_read_mill)), (a_t_read_hung, .inl (cyI, 3, .inl f_t_read_hung)), (a_t_read_water, .inr (7, [.ref a_t_read_water_level, .ref a_t_read_water_boards, .ref a_t_read_water_way, w_t_read_water_beforeRain, w_t_read_water_hour, w_t_read_water_rainBefore, w_t_read_water_next])), (a_t_read_water_level, .inl (cyI, 3, .inl f_t_read_water_level)), (a_t_read_water_boards, .inl (cyI, 3, .inl f_t_read_water_boards)), (a_t_read_water_way, .inl (cyI, 3, .inl f_t_read_water_way)), (a_t, .inr (3, [.ref a_t_tape, .int i_t_size, .int i_t_place_7, .int i_t_fault, .ref a_t_read])), (a_t_tape, .inl (cyI, 120, .inl f_t_tape))] H := hP
      replace hD : va_D A [(a_t_read, .inr (2, [.int i_t_read_reaches, .int i_t_read_span, .int i_t_read_sum, .int i_t_read_odds, .ref a_t_read_bank, .ref a_t_read_mill, .ref a_t_read_hung, .ref a_t_read_water])), (a_t_read_bank, .inl (cyI, 3, .inl f_t_read_bank)), (a_t_read_mill, .inl (cyI, 3, .inl f_t_read_mill)), (a_t_read_hung, .inl (cyI, 3, .inl f_t_read_hung)), (a_t_read_water, .inr (7, [.ref a_t_read_water_level, .ref a_t_read_water_boards, .ref a_t_read_water_way, w_t_read_water_beforeRain, w_t_read_water_hour, w_t_read_water_rainBefore, w_t_read_water_next])), (a_t_read_water_level, .inl (cyI, 3, .inl f_t_read_water_level)), (a_t_read_water_boards, .inl (cyI, 3, .inl f_t_read_water_boards)), (a_t_read_water_way, .inl (cyI, 3, .inl f_t_read_water_way)), (a_t, .inr (3, [.ref a_t_tape, .int i_t_size, .int i_t_place_7, .int i_t_fault, .ref a_t_read])), (a_t_tape, .inl (cyI, 120, .inl f_t_tape))] := hD
      refine lv_if_eq (tgt := 75) hx hb dX4_readClause_65 (by decide) (fun c8 => ?_) (fun c8 => ?_)
      · replace hw := hw.1 c8
        refine lv_aload_n hx hb dX4_readClause_75 rfl (lv_at hl 0 rfl) ?_
        obtain ⟨QK, eQ, hq⟩ := genq (P := WX2_fail_X4 i_t_place_7 i_t_fault) hw
        clear hw
        have hPc := hP.sub (ws' := [(a_t, .inr (3, [.ref a_t_tape, .int i_t_size, .int i_t_place_7, .int i_t_fault, .ref a_t_read]))]) [8] rfl
        have hDc := hD.sub (ws' := [(a_t, .inr (3, [.ref a_t_tape, .int i_t_size, .int i_t_place_7, .int i_t_fault, .ref a_t_read]))]) [8] (by decide) rfl
        have hFc := va_free (wc := [(a_t, .inr (3, [.ref a_t_tape, .int i_t_size, .int i_t_place_7, .int i_t_fault, .ref a_t_read]))]) hD hS hA [8] rfl
        refine va_callv (va_runU (As := []) (rest := []) ⟨hx, hb, hml, hown, hts⟩ (MX2_fail_X4 l D cyI cyZ cyC ro ce cin ad a_t  (.ref a_t_tape) (.int i_t_size) (.ref a_t_read) H.size i_t_place_7 i_t_fault QK  hq) (va_cwU 0 hts gX4_readClause_X2_fail_u39X4 rfl rfl rfl rfl dmX2_failu ⟨Nat.le_of_ble_eq_true rfl, Nat.le_of_ble_eq_true rfl⟩) ⟨pre_bl, va_recv hK hPc (ci := 3) (q0 := 0) rfl rfl, fun U hU hW => ⟨rfl, pre_of hX hS hK hPc hDc hFc hU hW⟩⟩ rfl rfl hl.1 rfl (lv_room (Nat.le_of_ble_eq_true rfl)) dX4_readClause_76 ⟨Nat.zero_le _, Nat.zero_le _⟩) hS (fun q _ h => hFc q h) hFc (fun u t H1 locs ht hvm hw hB hz1 hk1 hS => ?_)
        obtain ⟨i_t_fault_9, rfl⟩ : ∃ z, z = u := ⟨u, rfl⟩
        replace hw : QK i_t_fault_9 := hw
        clear hq
        subst eQ
        obtain ⟨hP1, hD1⟩ := hB
        rw [ht] at hP1
        obtain ⟨hP, hD⟩ := va_join (wr := [(a_t_read, .inr (2, [.int i_t_read_reaches, .int i_t_read_span, .int i_t_read_sum, .int i_t_read_odds, .ref a_t_read_bank, .ref a_t_read_mill, .ref a_t_read_hung, .ref a_t_read_water])), (a_t_read_bank, .inl (cyI, 3, .inl f_t_read_bank)), (a_t_read_mill, .inl (cyI, 3, .inl f_t_read_mill)), (a_t_read_hung, .inl (cyI, 3, .inl f_t_read_hung)), (a_t_read_water, .inr (7, [.ref a_t_read_water_level, .ref a_t_read_water_boards, .ref a_t_read_water_way, w_t_read_water_beforeRain, w_t_read_water_hour, w_t_read_water_rainBefore, w_t_read_water_next])), (a_t_read_water_level, .inl (cyI, 3, .inl f_t_read_water_level)), (a_t_read_water_boards, .inl (cyI, 3, .inl f_t_read_water_boards)), (a_t_read_water_way, .inl (cyI, 3, .inl f_t_read_water_way)), (a_t_tape, .inl (cyI, 120, .inl f_t_tape))]) (w1 := [(a_t, .inr (3, [.ref a_t_tape, .int i_t_size, .int i_t_place_7, .int i_t_fault_9, .ref a_t_read]))]) hP hD [8] [0, 1, 2, 3, 4, 5, 6, 7, 9] rfl rfl (by decide) (by decide) hk1 hFc hP1 hD1
        clear hPc hDc hFc hk1 hz1 hP1 hD1 ht hvm
        generalize H1 = H at hP hS ⊢
        replace hP : va_P D vwCl [(a_t_read, .inr (2, [.int i_t_read_reaches, .int i_t_read_span, .int i_t_read_sum, .int i_t_read_odds, .ref a_t_read_bank, .ref a_t_read_mill, .ref a_t_read_hung, .ref a_t_read_water])), (a_t_read_bank, .inl (cyI, 3, .inl f_t_read_bank)), (a_t_read_mill, .inl (cyI, 3, .inl f_t_read_mill)), (a_t_read_hung, .inl (cyI, 3, .inl f_t_read_hung)), (a_t_read_water, .inr (7, [.ref a_t_read_water_level, .ref a_t_read_water_boards, .ref a_t_read_water_way, w_t_read_water_beforeRain, w_t_read_water_hour, w_t_read_water_rainBefore, w_t_read_water_next])), (a_t_read_water_level, .inl (cyI, 3, .inl f_t_read_water_level)), (a_t_read_water_boards, .inl (cyI, 3, .inl f_t_read_water_boards)), (a_t_read_water_way, .inl (cyI, 3, .inl f_t_read_water_way)), (a_t_tape, .inl (cyI, 120, .inl f_t_tape)), (a_t, .inr (3, [.ref a_t_tape, .int i_t_size, .int i_t_place_7, .int i_t_fault_9, .ref a_t_read]))] H := hP
        replace hD : va_D A [(a_t_read, .inr (2, [.int i_t_read_reaches, .int i_t_read_span, .int i_t_read_sum, .int i_t_read_odds, .ref a_t_read_bank, .ref a_t_read_mill, .ref a_t_read_hung, .ref a_t_read_water])), (a_t_read_bank, .inl (cyI, 3, .inl f_t_read_bank)), (a_t_read_mill, .inl (cyI, 3, .inl f_t_read_mill)), (a_t_read_hung, .inl (cyI, 3, .inl f_t_read_hung)), (a_t_read_water, .inr (7, [.ref a_t_read_water_level, .ref a_t_read_water_boards, .ref a_t_read_water_way, w_t_read_water_beforeRain, w_t_read_water_hour, w_t_read_water_rainBefore, w_t_read_water_next])), (a_t_read_water_level, .inl (cyI, 3, .inl f_t_read_water_level)), (a_t_read_water_boards, .inl (cyI, 3, .inl f_t_read_water_boards)), (a_t_read_water_way, .inl (cyI, 3, .inl f_t_read_water_way)), (a_t_tape, .inl (cyI, 120, .inl f_t_tape)), (a_t, .inr (3, [.ref a_t_tape, .int i_t_size, .int i_t_place_7, .int i_t_fault_9, .ref a_t_read]))] := hD
        have hPj := hP.sub (ws' := [(a_t, .inr (3, [.ref a_t_tape, .int i_t_size, .int i_t_place_7, .int i_t_fault_9, .ref a_t_read])), (a_t_tape, .inl (cyI, 120, .inl f_t_tape)), (a_t_read, .inr (2, [.int i_t_read_reaches, .int i_t_read_span, .int i_t_read_sum, .int i_t_read_odds, .ref a_t_read_bank, .ref a_t_read_mill, .ref a_t_read_hung, .ref a_t_read_water])), (a_t_read_bank, .inl (cyI, 3, .inl f_t_read_bank)), (a_t_read_mill, .inl (cyI, 3, .inl f_t_read_mill)), (a_t_read_hung, .inl (cyI, 3, .inl f_t_read_hung)), (a_t_read_water, .inr (7, [.ref a_t_read_water_level, .ref a_t_read_water_boards, .ref a_t_read_water_way, w_t_read_water_beforeRain, w_t_read_water_hour, w_t_read_water_rainBefore, w_t_read_water_next])), (a_t_read_water_level, .inl (cyI, 3, .inl f_t_read_water_level)), (a_t_read_water_boards, .inl (cyI, 3, .inl f_t_read_water_boards)), (a_t_read_water_way, .inl (cyI, 3, .inl f_t_read_water_way))]) [9, 8, 0, 1, 2, 3, 4, 5, 6, 7] rfl
        have hDj := hD.sub (ws' := [(a_t, .inr (3, [.ref a_t_tape, .int i_t_size, .int i_t_place_7, .int i_t_fault_9, .ref a_t_read])), (a_t_tape, .inl (cyI, 120, .inl f_t_tape)), (a_t_read, .inr (2, [.int i_t_read_reaches, .int i_t_read_span, .int i_t_read_sum, .int i_t_read_odds, .ref a_t_read_bank, .ref a_t_read_mill, .ref a_t_read_hung, .ref a_t_read_water])), (a_t_read_bank, .inl (cyI, 3, .inl f_t_read_bank)), (a_t_read_mill, .inl (cyI, 3, .inl f_t_read_mill)), (a_t_read_hung, .inl (cyI, 3, .inl f_t_read_hung)), (a_t_read_water, .inr (7, [.ref a_t_read_water_level, .ref a_t_read_water_boards, .ref a_t_read_water_way, w_t_read_water_beforeRain, w_t_read_water_hour, w_t_read_water_rainBefore, w_t_read_water_next])), (a_t_read_water_level, .inl (cyI, 3, .inl f_t_read_water_level)), (a_t_read_water_boards, .inl (cyI, 3, .inl f_t_read_water_boards)), (a_t_read_water_way, .inl (cyI, 3, .inl f_t_read_water_way))]) [9, 8, 0, 1, 2, 3, 4, 5, 6, 7] (by decide) rfl
        exact W.vret hx hb hr (fun t ht hW => ⟨⟨(i_t_place_7, i_t_fault_9, i_t_read_reaches, i_t_read_span, i_t_read_sum, i_t_read_odds, f_t_read_bank, f_t_read_mill, f_t_read_hung, f_t_read_water_level, f_t_read_water_boards, f_t_read_water_way), rfl, hw, post_mk ht hPj hDj⟩, hS.F ht⟩) hS.2.2 dX4_readClause_79 hlocks
      · replace hw := hw.2 c8
        refine lv_aload_n hx hb dX4_readClause_68 rfl (lv_at hl 0 rfl) ?_
        obtain ⟨QK, eQ, hq⟩ := genq (P := WX4_readSpanOrSum i_t_size i_t_place_7 i_t_fault f_t_tape i_t_read_span i_t_read_sum) hw
        clear hw
        have hPc := hP.sub (ws' := [(a_t, .inr (3, [.ref a_t_tape, .int i_t_size, .int i_t_place_7, .int i_t_fault, .ref a_t_read])), (a_t_tape, .inl (cyI, 120, .inl f_t_tape)), (a_t_read, .inr (2, [.int i_t_read_reaches, .int i_t_read_span, .int i_t_read_sum, .int i_t_read_odds, .ref a_t_read_bank, .ref a_t_read_mill, .ref a_t_read_hung, .ref a_t_read_water]))]) [8, 9, 0] rfl
        have hDc := hD.sub (ws' := [(a_t, .inr (3, [.ref a_t_tape, .int i_t_size, .int i_t_place_7, .int i_t_fault, .ref a_t_read])), (a_t_tape, .inl (cyI, 120, .inl f_t_tape)), (a_t_read, .inr (2, [.int i_t_read_reaches, .int i_t_read_span, .int i_t_read_sum, .int i_t_read_odds, .ref a_t_read_bank, .ref a_t_read_mill, .ref a_t_read_hung, .ref a_t_read_water]))]) [8, 9, 0] (by decide) rfl
        have hFc := va_free (wc := [(a_t, .inr (3, [.ref a_t_tape, .int i_t_size, .int i_t_place_7, .int i_t_fault, .ref a_t_read])), (a_t_tape, .inl (cyI, 120, .inl f_t_tape)), (a_t_read, .inr (2, [.int i_t_read_reaches, .int i_t_read_span, .int i_t_read_sum, .int i_t_read_odds, .ref a_t_read_bank, .ref a_t_read_mill, .ref a_t_read_hung, .ref a_t_read_water]))]) hD hS hA [8, 9, 0] rfl
        refine va_callv (va_runV (As := []) (rest := []) ⟨hx, hb, hml, hown, hts⟩ (MX4_readSpanOrSum l D cyI cyZ cyC ro ce cin ad a_t a_t_tape a_t_read  (.int i_t_read_reaches) (.int i_t_read_odds) (.ref a_t_read_bank) (.ref a_t_read_mill) (.ref a_t_read_hung) (.ref a_t_read_water) H.size i_t_size i_t_place_7 i_t_fault f_t_tape i_t_read_span i_t_read_sum QK  hq) (cwV 0 hts gX4_readClause_X4_readSpanOrSum rfl rfl rfl ⟨rfl, dmX4_readSpanOrSum⟩ ⟨Nat.le_of_ble_eq_true rfl, Nat.le_of_ble_eq_true rfl⟩) ⟨pre_bl, va_recv hK hPc (ci := 3) (q0 := 0) rfl rfl, fun U hU hW => ⟨rfl, pre_of hX hS hK hPc hDc hFc hU hW⟩⟩ rfl rfl hl.1 rfl (lv_room (Nat.le_of_ble_eq_true rfl)) dX4_readClause_69 ⟨Nat.zero_le _, Nat.zero_le _⟩) hS (fun q _ h => hFc q h) hFc (fun u t H1 locs ht hvm hw hB hz1 hk1 hS => ?_)
        obtain ⟨i_t_place_10, i_t_fault_11, i_t_read_span_12, i_t_read_sum_13⟩ := u
        replace hw : QK i_t_place_10 i_t_fault_11 i_t_read_span_12 i_t_read_sum_13 := hw
        clear hq
        subst eQ
        obtain ⟨hP1, hD1⟩ := hB
        rw [ht] at hP1
        obtain ⟨hP, hD⟩ := va_join (wr := [(a_t_read_bank, .inl (cyI, 3, .inl f_t_read_bank)), (a_t_read_mill, .inl (cyI, 3, .inl f_t_read_mill)), (a_t_read_hung, .inl (cyI, 3, .inl f_t_read_hung)), (a_t_read_water, .inr (7, [.ref a_t_read_water_level, .ref a_t_read_water_boards, .ref a_t_read_water_way, w_t_read_water_beforeRain, w_t_read_water_hour, w_t_read_water_rainBefore, w_t_read_water_next])), (a_t_read_water_level, .inl (cyI, 3, .inl f_t_read_water_level)), (a_t_read_water_boards, .inl (cyI, 3, .inl f_t_read_water_boards)), (a_t_read_water_way, .inl (cyI, 3, .inl f_t_read_water_way))]) (w1 := [(a_t, .inr (3, [.ref a_t_tape, .int i_t_size, .int i_t_place_10, .int i_t_fault_11, .ref a_t_read])), (a_t_tape, .inl (cyI, 120, .inl f_t_tape)), (a_t_read, .inr (2, [.int i_t_read_reaches, .int i_t_read_span_12, .int i_t_read_sum_13, .int i_t_read_odds, .ref a_t_read_bank, .ref a_t_read_mill, .ref a_t_read_hung, .ref a_t_read_water]))]) hP hD [8, 9, 0] [1, 2, 3, 4, 5, 6, 7] rfl rfl (by decide) (by decide) hk1 hFc hP1 hD1
        clear hPc hDc hFc hk1 hz1 hP1 hD1 ht hvm
        generalize H1 = H at hP hS ⊢
        replace hP : va_P D vwCl [(a_t_read_bank, .inl (cyI, 3, .inl f_t_read_bank)), (a_t_read_mill, .inl (cyI, 3, .inl f_t_read_mill)), (a_t_read_hung, .inl (cyI, 3, .inl f_t_read_hung)), (a_t_read_water, .inr (7, [.ref a_t_read_water_level, .ref a_t_read_water_boards, .ref a_t_read_water_way, w_t_read_water_beforeRain, w_t_read_water_hour, w_t_read_water_rainBefore, w_t_read_water_next])), (a_t_read_water_level, .inl (cyI, 3, .inl f_t_read_water_level)), (a_t_read_water_boards, .inl (cyI, 3, .inl f_t_read_water_boards)), (a_t_read_water_way, .inl (cyI, 3, .inl f_t_read_water_way)), (a_t, .inr (3, [.ref a_t_tape, .int i_t_size, .int i_t_place_10, .int i_t_fault_11, .ref a_t_read])), (a_t_tape, .inl (cyI, 120, .inl f_t_tape)), (a_t_read, .inr (2, [.int i_t_read_reaches, .int i_t_read_span_12, .int i_t_read_sum_13, .int i_t_read_odds, .ref a_t_read_bank, .ref a_t_read_mill, .ref a_t_read_hung, .ref a_t_read_water]))] H := hP
        replace hD : va_D A [(a_t_read_bank, .inl (cyI, 3, .inl f_t_read_bank)), (a_t_read_mill, .inl (cyI, 3, .inl f_t_read_mill)), (a_t_read_hung, .inl (cyI, 3, .inl f_t_read_hung)), (a_t_read_water, .inr (7, [.ref a_t_read_water_level, .ref a_t_read_water_boards, .ref a_t_read_water_way, w_t_read_water_beforeRain, w_t_read_water_hour, w_t_read_water_rainBefore, w_t_read_water_next])), (a_t_read_water_level, .inl (cyI, 3, .inl f_t_read_water_level)), (a_t_read_water_boards, .inl (cyI, 3, .inl f_t_read_water_boards)), (a_t_read_water_way, .inl (cyI, 3, .inl f_t_read_water_way)), (a_t, .inr (3, [.ref a_t_tape, .int i_t_size, .int i_t_place_10, .int i_t_fault_11, .ref a_t_read])), (a_t_tape, .inl (cyI, 120, .inl f_t_tape)), (a_t_read, .inr (2, [.int i_t_read_reaches, .int i_t_read_span_12, .int i_t_read_sum_13, .int i_t_read_odds, .ref a_t_read_bank, .ref a_t_read_mill, .ref a_t_read_hung, .ref a_t_read_water]))] := hD
        refine lv_goto (tgt := 79) hx hb dX4_readClause_72 (by decide) ?_
        have hPj := hP.sub (ws' := [(a_t, .inr (3, [.ref a_t_tape, .int i_t_size, .int i_t_place_10, .int i_t_fault_11, .ref a_t_read])), (a_t_tape, .inl (cyI, 120, .inl f_t_tape)), (a_t_read, .inr (2, [.int i_t_read_reaches, .int i_t_read_span_12, .int i_t_read_sum_13, .int i_t_read_odds, .ref a_t_read_bank, .ref a_t_read_mill, .ref a_t_read_hung, .ref a_t_read_water])), (a_t_read_bank, .inl (cyI, 3, .inl f_t_read_bank)), (a_t_read_mill, .inl (cyI, 3, .inl f_t_read_mill)), (a_t_read_hung, .inl (cyI, 3, .inl f_t_read_hung)), (a_t_read_water, .inr (7, [.ref a_t_read_water_level, .ref a_t_read_water_boards, .ref a_t_read_water_way, w_t_read_water_beforeRain, w_t_read_water_hour, w_t_read_water_rainBefore, w_t_read_water_next])), (a_t_read_water_level, .inl (cyI, 3, .inl f_t_read_water_level)), (a_t_read_water_boards, .inl (cyI, 3, .inl f_t_read_water_boards)), (a_t_read_water_way, .inl (cyI, 3, .inl f_t_read_water_way))]) [7, 8, 9, 0, 1, 2, 3, 4, 5, 6] rfl
        have hDj := hD.sub (ws' := [(a_t, .inr (3, [.ref a_t_tape, .int i_t_size, .int i_t_place_10, .int i_t_fault_11, .ref a_t_read])), (a_t_tape, .inl (cyI, 120, .inl f_t_tape)), (a_t_read, .inr (2, [.int i_t_read_reaches, .int i_t_read_span_12, .int i_t_read_sum_13, .int i_t_read_odds, .ref a_t_read_bank, .ref a_t_read_mill, .ref a_t_read_hung, .ref a_t_read_water])), (a_t_read_bank, .inl (cyI, 3, .inl f_t_read_bank)), (a_t_read_mill, .inl (cyI, 3, .inl f_t_read_mill)), (a_t_read_hung, .inl (cyI, 3, .inl f_t_read_hung)), (a_t_read_water, .inr (7, [.ref a_t_read_water_level, .ref a_t_read_water_boards, .ref a_t_read_water_way, w_t_read_water_beforeRain, w_t_read_water_hour, w_t_read_water_rainBefore, w_t_read_water_next])), (a_t_read_water_level, .inl (cyI, 3, .inl f_t_read_water_level)), (a_t_read_water_boards, .inl (cyI, 3, .inl f_t_read_water_boards)), (a_t_read_water_way, .inl (cyI, 3, .inl f_t_read_water_way))]) [7, 8, 9, 0, 1, 2, 3, 4, 5, 6] (by decide) rfl
        exact W.vret hx hb hr (fun t ht hW => ⟨⟨(i_t_place_10, i_t_fault_11, i_t_read_reaches, i_t_read_span_12, i_t_read_sum_13, i_t_read_odds, f_t_read_bank, f_t_read_mill, f_t_read_hung, f_t_read_water_level, f_t_read_water_boards, f_t_read_water_way), rfl, hw, post_mk ht hPj hDj⟩, hS.F ht⟩) hS.2.2 dX4_readClause_79 hlocks
    · replace hw := hw.2 c5
      refine lv_aload_n hx hb dX4_readClause_36 rfl (lv_at hl 0 rfl) ?_
      refine va_ldcS (tx := "dds ") (q := ad.1 1) hx hb hown (hX.env.2.1 ("SluiceCards$RiverReader", 52, "dds ", 1) (List.mem_of_getElem? (i := 1) rfl)) dX4_readClause_37 ?_
      obtain ⟨QK, eQ, hq⟩ := genq (P := WX2_needsAll_X4 1 i_t_size i_t_place_4 i_t_fault f_t_tape) hw
      clear hw
      have hPc := hP.sub (ws' := [(a_t, .inr (3, [.ref a_t_tape, .int i_t_size, .int i_t_place_4, .int i_t_fault, .ref a_t_read])), (a_t_tape, .inl (cyI, 120, .inl f_t_tape))]) [8, 9] rfl
      have hDc := hD.sub (ws' := [(a_t, .inr (3, [.ref a_t_tape, .int i_t_size, .int i_t_place_4, .int i_t_fault, .ref a_t_read])), (a_t_tape, .inl (cyI, 120, .inl f_t_tape))]) [8, 9] (by decide) rfl
      have hFc := va_free (wc := [(a_t, .inr (3, [.ref a_t_tape, .int i_t_size, .int i_t_place_4, .int i_t_fault, .ref a_t_read])), (a_t_tape, .inl (cyI, 120, .inl f_t_tape))]) hD hS hA [8, 9] rfl
      refine va_callv (va_runU (As := [.ref (ad.1 1)]) (rest := []) ⟨hx, hb, hml, hown, hts⟩ (MX2_needsAll_X4 l D cyI cyZ cyC ro ce cin ad a_t a_t_tape  (.ref a_t_read) H.size 1 i_t_size i_t_place_4 i_t_fault f_t_tape QK (by decide) hq) (va_cwU 1 hts gX4_readClause_X2_needsAll_u54X4 rfl rfl rfl rfl dmX2_needsAllu ⟨Nat.le_of_ble_eq_true rfl, Nat.le_of_ble_eq_true rfl⟩) ⟨pre_bl, va_recv hK hPc (ci := 3) (q0 := 0) rfl rfl, fun U hU hW => ⟨rfl, pre_of hX hS hK hPc hDc hFc hU hW⟩⟩ rfl rfl hl.1 rfl (lv_room (Nat.le_of_ble_eq_true rfl)) dX4_readClause_39 ⟨Nat.zero_le _, Nat.zero_le _⟩) hS (fun q _ h => hFc q h) hFc (fun u t H1 locs ht hvm hw hB hz1 hk1 hS => ?_)
      obtain ⟨i_t_place_14, i_t_fault_15⟩ := u
      replace hw : QK i_t_place_14 i_t_fault_15 := hw
      clear hq
      subst eQ
      obtain ⟨hP1, hD1⟩ := hB
      rw [ht] at hP1
      obtain ⟨hP, hD⟩ := va_join (wr := [(a_t_read, .inr (2, [.int i_t_read_reaches, .int i_t_read_span, .int i_t_read_sum, .int i_t_read_odds, .ref a_t_read_bank, .ref a_t_read_mill, .ref a_t_read_hung, .ref a_t_read_water])), (a_t_read_bank, .inl (cyI, 3, .inl f_t_read_bank)), (a_t_read_mill, .inl (cyI, 3, .inl f_t_read_mill)), (a_t_read_hung, .inl (cyI, 3, .inl f_t_read_hung)), (a_t_read_water, .inr (7, [.ref a_t_read_water_level, .ref a_t_read_water_boards, .ref a_t_read_water_way, w_t_read_water_beforeRain, w_t_read_water_hour, w_t_read_water_rainBefore, w_t_read_water_next])), (a_t_read_water_level, .inl (cyI, 3, .inl f_t_read_water_level)), (a_t_read_water_boards, .inl (cyI, 3, .inl f_t_read_water_boards)), (a_t_read_water_way, .inl (cyI, 3, .inl f_t_read_water_way))]) (w1 := [(a_t, .inr (3, [.ref a_t_tape, .int i_t_size, .int i_t_place_14, .int i_t_fault_15, .ref a_t_read])), (a_t_tape, .inl (cyI, 120, .inl f_t_tape))]) hP hD [8, 9] [0, 1, 2, 3, 4, 5, 6, 7] rfl rfl (by decide) (by decide) hk1 hFc hP1 hD1
      clear hPc hDc hFc hk1 hz1 hP1 hD1 ht hvm
      generalize H1 = H at hP hS ⊢
      replace hP : va_P D vwCl [(a_t_read, .inr (2, [.int i_t_read_reaches, .int i_t_read_span, .int i_t_read_sum, .int i_t_read_odds, .ref a_t_read_bank, .ref a_t_read_mill, .ref a_t_read_hung, .ref a_t_read_water])), (a_t_read_bank, .inl (cyI, 3, .inl f_t_read_bank)), (a_t_read_mill, .inl (cyI, 3, .inl f_t_read_mill)), (a_t_read_hung, .inl (cyI, 3, .inl f_t_read_hung)), (a_t_read_water, .inr (7, [.ref a_t_read_water_level, .ref a_t_read_water_boards, .ref a_t_read_water_way, w_t_read_water_beforeRain, w_t_read_water_hour, w_t_read_water_rainBefore, w_t_read_water_next])), (a_t_read_water_level, .inl (cyI, 3, .inl f_t_read_water_level)), (a_t_read_water_boards, .inl (cyI, 3, .inl f_t_read_water_boards)), (a_t_read_water_way, .inl (cyI, 3, .inl f_t_read_water_way)), (a_t, .inr (3, [.ref a_t_tape, .int i_t_size, .int i_t_place_14, .int i_t_fault_15, .ref a_t_read])), (a_t_tape, .inl (cyI, 120, .inl f_t_tape))] H := hP
      replace hD : va_D A [(a_t_read, .inr (2, [.int i_t_read_reaches, .int i_t_read_span, .int i_t_read_sum, .int i_t_read_odds, .ref a_t_read_bank, .ref a_t_read_mill, .ref a_t_read_hung, .ref a_t_read_water])), (a_t_read_bank, .inl (cyI, 3, .inl f_t_read_bank)), (a_t_read_mill, .inl (cyI, 3, .inl f_t_read_mill)), (a_t_read_hung, .inl (cyI, 3, .inl f_t_read_hung)), (a_t_read_water, .inr (7, [.ref a_t_read_water_level, .ref a_t_read_water_boards, .ref a_t_read_water_way, w_t_read_water_beforeRain, w_t_read_water_hour, w_t_read_water_rainBefore, w_t_read_water_next])), (a_t_read_water_level, .inl (cyI, 3, .inl f_t_read_water_level)), (a_t_read_water_boards, .inl (cyI, 3, .inl f_t_read_water_boards)), (a_t_read_water_way, .inl (cyI, 3, .inl f_t_read_water_way)), (a_t, .inr (3, [.ref a_t_tape, .int i_t_size, .int i_t_place_14, .int i_t_fault_15, .ref a_t_read])), (a_t_tape, .inl (cyI, 120, .inl f_t_tape))] := hD
      refine lv_aload_n hx hb dX4_readClause_42 rfl (lv_at hl 0 rfl) ?_
      refine va_get (D := D) (ci := 3) (v := .ref a_t_read) (C := RX4) (T := TX4) (N := 5) hx hb hts inX4_readClause_X4 hown hK hP 8 rfl rfl 4 (by decide) (hts _ (List.mem_of_getElem? (i := 1) rfl)) (fun _ h9 => h9) rfl dX4_readClause_43 ?_
      refine lv_aload_n hx hb dX4_readClause_46 rfl (lv_at hl 0 rfl) ?_
      refine lv_iconst (v := 0) hx hb dX4_readClause_47 (by decide) ?_
      refine lv_bipush (v := 9) hx hb dX4_readClause_48 (by decide) ?_
      obtain ⟨QK, eQ, hq⟩ := genq (P := WX2_digit_X4 0 9 i_t_size i_t_place_14 i_t_fault_15 f_t_tape) hw
      clear hw
      have hPc := hP.sub (ws' := [(a_t, .inr (3, [.ref a_t_tape, .int i_t_size, .int i_t_place_14, .int i_t_fault_15, .ref a_t_read])), (a_t_tape, .inl (cyI, 120, .inl f_t_tape))]) [8, 9] rfl
      have hDc := hD.sub (ws' := [(a_t, .inr (3, [.ref a_t_tape, .int i_t_size, .int i_t_place_14, .int i_t_fault_15, .ref a_t_read])), (a_t_tape, .inl (cyI, 120, .inl f_t_tape))]) [8, 9] (by decide) rfl
      have hFc := va_free (wc := [(a_t, .inr (3, [.ref a_t_tape, .int i_t_size, .int i_t_place_14, .int i_t_fault_15, .ref a_t_read])), (a_t_tape, .inl (cyI, 120, .inl f_t_tape))]) hD hS hA [8, 9] rfl
      refine va_calli (va_runU (As := [.int 0, .int 9]) (rest := [.ref a_t_read]) ⟨hx, hb, hml, hown, hts⟩ (MX2_digit_X4 l D cyI cyZ cyC ro ce cin ad a_t a_t_tape  (.ref a_t_read) H.size 0 9 i_t_size i_t_place_14 i_t_fault_15 f_t_tape QK  hq) (va_cwU 2 hts gX4_readClause_X2_digit_u58X4 rfl rfl rfl rfl dmX2_digitu ⟨Nat.le_of_ble_eq_true rfl, Nat.le_of_ble_eq_true rfl⟩) ⟨pre_bl, va_recv hK hPc (ci := 3) (q0 := 0) rfl rfl, fun U hU hW => ⟨rfl, pre_of hX hS hK hPc hDc hFc hU hW⟩⟩ rfl rfl hl.1 rfl (lv_room (Nat.le_of_ble_eq_true rfl)) dX4_readClause_50 ⟨Nat.zero_le _, Nat.zero_le _⟩) hS (fun q _ h => hFc q h) hFc (fun r16 u t H1 locs ht hvm hw hB hz1 hk1 hS => ?_)
      obtain ⟨i_t_place_17, i_t_fault_18⟩ := u
      replace hw : QK r16 i_t_place_17 i_t_fault_18 := hw
      clear hq
      subst eQ
      obtain ⟨hP1, hD1⟩ := hB
      rw [ht] at hP1
      obtain ⟨hP, hD⟩ := va_join (wr := [(a_t_read, .inr (2, [.int i_t_read_reaches, .int i_t_read_span, .int i_t_read_sum, .int i_t_read_odds, .ref a_t_read_bank, .ref a_t_read_mill, .ref a_t_read_hung, .ref a_t_read_water])), (a_t_read_bank, .inl (cyI, 3, .inl f_t_read_bank)), (a_t_read_mill, .inl (cyI, 3, .inl f_t_read_mill)), (a_t_read_hung, .inl (cyI, 3, .inl f_t_read_hung)), (a_t_read_water, .inr (7, [.ref a_t_read_water_level, .ref a_t_read_water_boards, .ref a_t_read_water_way, w_t_read_water_beforeRain, w_t_read_water_hour, w_t_read_water_rainBefore, w_t_read_water_next])), (a_t_read_water_level, .inl (cyI, 3, .inl f_t_read_water_level)), (a_t_read_water_boards, .inl (cyI, 3, .inl f_t_read_water_boards)), (a_t_read_water_way, .inl (cyI, 3, .inl f_t_read_water_way))]) (w1 := [(a_t, .inr (3, [.ref a_t_tape, .int i_t_size, .int i_t_place_17, .int i_t_fault_18, .ref a_t_read])), (a_t_tape, .inl (cyI, 120, .inl f_t_tape))]) hP hD [8, 9] [0, 1, 2, 3, 4, 5, 6, 7] rfl rfl (by decide) (by decide) hk1 hFc hP1 hD1
      clear hPc hDc hFc hk1 hz1 hP1 hD1 ht hvm
      generalize H1 = H at hP hS ⊢
      replace hP : va_P D vwCl [(a_t_read, .inr (2, [.int i_t_read_reaches, .int i_t_read_span, .int i_t_read_sum, .int i_t_read_odds, .ref a_t_read_bank, .ref a_t_read_mill, .ref a_t_read_hung, .ref a_t_read_water])), (a_t_read_bank, .inl (cyI, 3, .inl f_t_read_bank)), (a_t_read_mill, .inl (cyI, 3, .inl f_t_read_mill)), (a_t_read_hung, .inl (cyI, 3, .inl f_t_read_hung)), (a_t_read_water, .inr (7, [.ref a_t_read_water_level, .ref a_t_read_water_boards, .ref a_t_read_water_way, w_t_read_water_beforeRain, w_t_read_water_hour, w_t_read_water_rainBefore, w_t_read_water_next])), (a_t_read_water_level, .inl (cyI, 3, .inl f_t_read_water_level)), (a_t_read_water_boards, .inl (cyI, 3, .inl f_t_read_water_boards)), (a_t_read_water_way, .inl (cyI, 3, .inl f_t_read_water_way)), (a_t, .inr (3, [.ref a_t_tape, .int i_t_size, .int i_t_place_17, .int i_t_fault_18, .ref a_t_read])), (a_t_tape, .inl (cyI, 120, .inl f_t_tape))] H := hP
      replace hD : va_D A [(a_t_read, .inr (2, [.int i_t_read_reaches, .int i_t_read_span, .int i_t_read_sum, .int i_t_read_odds, .ref a_t_read_bank, .ref a_t_read_mill, .ref a_t_read_hung, .ref a_t_read_water])), (a_t_read_bank, .inl (cyI, 3, .inl f_t_read_bank)), (a_t_read_mill, .inl (cyI, 3, .inl f_t_read_mill)), (a_t_read_hung, .inl (cyI, 3, .inl f_t_read_hung)), (a_t_read_water, .inr (7, [.ref a_t_read_water_level, .ref a_t_read_water_boards, .ref a_t_read_water_way, w_t_read_water_beforeRain, w_t_read_water_hour, w_t_read_water_rainBefore, w_t_read_water_next])), (a_t_read_water_level, .inl (cyI, 3, .inl f_t_read_water_level)), (a_t_read_water_boards, .inl (cyI, 3, .inl f_t_read_water_boards)), (a_t_read_water_way, .inl (cyI, 3, .inl f_t_read_water_way)), (a_t, .inr (3, [.ref a_t_tape, .int i_t_size, .int i_t_place_17, .int i_t_fault_18, .ref a_t_read])), (a_t_tape, .inl (cyI, 120, .inl f_t_tape))] := hD
      refine va_put (D := D) (ci := 2) (v := .int r16) (ty := .int) (C := RX3) (T := TX3) (N := 8) hx hb hts inX4_readClause_X3 tyX3 tyX3_ok nmX3 hown hK hP hD hS 0 rfl rfl 3 (by decide) (hts _ (List.mem_of_getElem? (i := 3) rfl)) (fun _ h9 => h9) rfl (tyX3_ok 3 (by decide)) rfl rfl (Nat.le_of_ble_eq_true rfl) dX4_readClause_53 (fun H locs hP hD hS => ?_)
      replace hP : va_P D vwCl [(a_t_read, .inr (2, [.int i_t_read_reaches, .int i_t_read_span, .int i_t_read_sum, .int r16, .ref a_t_read_bank, .ref a_t_read_mill, .ref a_t_read_hung, .ref a_t_read_water])), (a_t_read_bank, .inl (cyI, 3, .inl f_t_read_bank)), (a_t_read_mill, .inl (cyI, 3, .inl f_t_read_mill)), (a_t_read_hung, .inl (cyI, 3, .inl f_t_read_hung)), (a_t_read_water, .inr (7, [.ref a_t_read_water_level, .ref a_t_read_water_boards, .ref a_t_read_water_way, w_t_read_water_beforeRain, w_t_read_water_hour, w_t_read_water_rainBefore, w_t_read_water_next])), (a_t_read_water_level, .inl (cyI, 3, .inl f_t_read_water_level)), (a_t_read_water_boards, .inl (cyI, 3, .inl f_t_read_water_boards)), (a_t_read_water_way, .inl (cyI, 3, .inl f_t_read_water_way)), (a_t, .inr (3, [.ref a_t_tape, .int i_t_size, .int i_t_place_17, .int i_t_fault_18, .ref a_t_read])), (a_t_tape, .inl (cyI, 120, .inl f_t_tape))] H := hP
      replace hD : va_D A [(a_t_read, .inr (2, [.int i_t_read_reaches, .int i_t_read_span, .int i_t_read_sum, .int r16, .ref a_t_read_bank, .ref a_t_read_mill, .ref a_t_read_hung, .ref a_t_read_water])), (a_t_read_bank, .inl (cyI, 3, .inl f_t_read_bank)), (a_t_read_mill, .inl (cyI, 3, .inl f_t_read_mill)), (a_t_read_hung, .inl (cyI, 3, .inl f_t_read_hung)), (a_t_read_water, .inr (7, [.ref a_t_read_water_level, .ref a_t_read_water_boards, .ref a_t_read_water_way, w_t_read_water_beforeRain, w_t_read_water_hour, w_t_read_water_rainBefore, w_t_read_water_next])), (a_t_read_water_level, .inl (cyI, 3, .inl f_t_read_water_level)), (a_t_read_water_boards, .inl (cyI, 3, .inl f_t_read_water_boards)), (a_t_read_water_way, .inl (cyI, 3, .inl f_t_read_water_way)), (a_t, .inr (3, [.ref a_t_tape, .int i_t_size, .int i_t_place_17, .int i_t_fault_18, .ref a_t_read])), (a_t_tape, .inl (cyI, 120, .inl f_t_tape))] := hD
      refine lv_goto (tgt := 79) hx hb dX4_readClause_56 (by decide) ?_
      have hPj := hP.sub (ws' := [(a_t, .inr (3, [.ref a_t_tape, .int i_t_size, .int i_t_place_17, .int i_t_fault_18, .ref a_t_read])), (a_t_tape, .inl (cyI, 120, .inl f_t_tape)), (a_t_read, .inr (2, [.int i_t_read_reaches, .int i_t_read_span, .int i_t_read_sum, .int r16, .ref a_t_read_bank, .ref a_t_read_mill, .ref a_t_read_hung, .ref a_t_read_water])), (a_t_read_bank, .inl (cyI, 3, .inl f_t_read_bank)), (a_t_read_mill, .inl (cyI, 3, .inl f_t_read_mill)), (a_t_read_hung, .inl (cyI, 3, .inl f_t_read_hung)), (a_t_read_water, .inr (7, [.ref a_t_read_water_level, .ref a_t_read_water_boards, .ref a_t_read_water_way, w_t_read_water_beforeRain, w_t_read_water_hour, w_t_read_water_rainBefore, w_t_read_water_next])), (a_t_read_water_level, .inl (cyI, 3, .inl f_t_read_water_level)), (a_t_read_water_boards, .inl (cyI, 3, .inl f_t_read_water_boards)), (a_t_read_water_way, .inl (cyI, 3, .inl f_t_read_water_way))]) [8, 9, 0, 1, 2, 3, 4, 5, 6, 7] rfl
      have hDj := hD.sub (ws' := [(a_t, .inr (3, [.ref a_t_tape, .int i_t_size, .int i_t_place_17, .int i_t_fault_18, .ref a_t_read])), (a_t_tape, .inl (cyI, 120, .inl f_t_tape)), (a_t_read, .inr (2, [.int i_t_read_reaches, .int i_t_read_span, .int i_t_read_sum, .int r16, .ref a_t_read_bank, .ref a_t_read_mill, .ref a_t_read_hung, .ref a_t_read_water])), (a_t_read_bank, .inl (cyI, 3, .inl f_t_read_bank)), (a_t_read_mill, .inl (cyI, 3, .inl f_t_read_mill)), (a_t_read_hung, .inl (cyI, 3, .inl f_t_read_hung)), (a_t_read_water, .inr (7, [.ref a_t_read_water_level, .ref a_t_read_water_boards, .ref a_t_read_water_way, w_t_read_water_beforeRain, w_t_read_water_hour, w_t_read_water_rainBefore, w_t_read_water_next])), (a_t_read_water_level, .inl (cyI, 3, .inl f_t_read_water_level)), (a_t_read_water_boards, .inl (cyI, 3, .inl f_t_read_water_boards)), (a_t_read_water_way, .inl (cyI, 3, .inl f_t_read_water_way))]) [8, 9, 0, 1, 2, 3, 4, 5, 6, 7] (by decide) rfl
      exact W.vret hx hb hr (fun t ht hW => ⟨⟨(i_t_place_17, i_t_fault_18, i_t_read_reaches, i_t_read_span, i_t_read_sum, r16, f_t_read_bank, f_t_read_mill, f_t_read_hung, f_t_read_water_level, f_t_read_water_boards, f_t_read_water_way), rfl, hw, post_mk ht hPj hDj⟩, hS.F ht⟩) hS.2.2 dX4_readClause_79 hlocks
  unfold WX4_readClause at hw
  refine lv_aload_n hx hb dX4_readClause_0 rfl (lv_at hl 0 rfl) ?_
  obtain ⟨QK, eQ, hq⟩ := genq (P := WX2_next_X4 i_t_size i_t_place i_t_fault f_t_tape) hw
  clear hw
  have hPc := hP.sub (ws' := [(a_t, .inr (3, [.ref a_t_tape, .int i_t_size, .int i_t_place, .int i_t_fault, .ref a_t_read])), (a_t_tape, .inl (cyI, 120, .inl f_t_tape))]) [0, 1] rfl
  have hDc := hD.sub (ws' := [(a_t, .inr (3, [.ref a_t_tape, .int i_t_size, .int i_t_place, .int i_t_fault, .ref a_t_read])), (a_t_tape, .inl (cyI, 120, .inl f_t_tape))]) [0, 1] (by decide) rfl
  have hFc := va_free (wc := [(a_t, .inr (3, [.ref a_t_tape, .int i_t_size, .int i_t_place, .int i_t_fault, .ref a_t_read])), (a_t_tape, .inl (cyI, 120, .inl f_t_tape))]) hD hS hA [0, 1] rfl
  refine va_calli (va_runU (As := []) (rest := []) ⟨hx, hb, hml, hown, hts⟩ (MX2_next_X4 l D cyI cyZ cyC ro ce cin ad a_t a_t_tape  (.ref a_t_read) H.size i_t_size i_t_place i_t_fault f_t_tape QK  hq) (va_cwU 0 hts gX4_readClause_X2_next_u46X4 rfl rfl rfl rfl dmX2_nextu ⟨Nat.le_of_ble_eq_true rfl, Nat.le_of_ble_eq_true rfl⟩) ⟨pre_bl, va_recv hK hPc (ci := 3) (q0 := 0) rfl rfl, fun U hU hW => ⟨rfl, pre_of hX hS hK hPc hDc hFc hU hW⟩⟩ rfl rfl hl.1 rfl (lv_room (Nat.le_of_ble_eq_true rfl)) dX4_readClause_1 ⟨Nat.zero_le _, Nat.zero_le _⟩) hS (fun q _ h => hFc q h) hFc (fun r1 u t H1 locs ht hvm hw hB hz1 hk1 hS => ?_)
  replace hw : QK r1 := hw
  clear hq
  subst eQ
  obtain ⟨hP1, hD1⟩ := hB
  rw [ht] at hP1
  obtain ⟨hP, hD⟩ := va_join (wr := [(a_t_read, .inr (2, [.int i_t_read_reaches, .int i_t_read_span, .int i_t_read_sum, .int i_t_read_odds, .ref a_t_read_bank, .ref a_t_read_mill, .ref a_t_read_hung, .ref a_t_read_water])), (a_t_read_bank, .inl (cyI, 3, .inl f_t_read_bank)), (a_t_read_mill, .inl (cyI, 3, .inl f_t_read_mill)), (a_t_read_hung, .inl (cyI, 3, .inl f_t_read_hung)), (a_t_read_water, .inr (7, [.ref a_t_read_water_level, .ref a_t_read_water_boards, .ref a_t_read_water_way, w_t_read_water_beforeRain, w_t_read_water_hour, w_t_read_water_rainBefore, w_t_read_water_next])), (a_t_read_water_level, .inl (cyI, 3, .inl f_t_read_water_level)), (a_t_read_water_boards, .inl (cyI, 3, .inl f_t_read_water_boards)), (a_t_read_water_way, .inl (cyI, 3, .inl f_t_read_water_way))]) (w1 := [(a_t, .inr (3, [.ref a_t_tape, .int i_t_size, .int i_t_place, .int i_t_fault, .ref a_t_read])), (a_t_tape, .inl (cyI, 120, .inl f_t_tape))]) hP hD [0, 1] [2, 3, 4, 5, 6, 7, 8, 9] rfl rfl (by decide) (by decide) hk1 hFc hP1 hD1
  clear hPc hDc hFc hk1 hz1 hP1 hD1 ht hvm
  generalize H1 = H at hP hS ⊢
  replace hP : va_P D vwCl [(a_t_read, .inr (2, [.int i_t_read_reaches, .int i_t_read_span, .int i_t_read_sum, .int i_t_read_odds, .ref a_t_read_bank, .ref a_t_read_mill, .ref a_t_read_hung, .ref a_t_read_water])), (a_t_read_bank, .inl (cyI, 3, .inl f_t_read_bank)), (a_t_read_mill, .inl (cyI, 3, .inl f_t_read_mill)), (a_t_read_hung, .inl (cyI, 3, .inl f_t_read_hung)), (a_t_read_water, .inr (7, [.ref a_t_read_water_level, .ref a_t_read_water_boards, .ref a_t_read_water_way, w_t_read_water_beforeRain, w_t_read_water_hour, w_t_read_water_rainBefore, w_t_read_water_next])), (a_t_read_water_level, .inl (cyI, 3, .inl f_t_read_water_level)), (a_t_read_water_boards, .inl (cyI, 3, .inl f_t_read_water_boards)), (a_t_read_water_way, .inl (cyI, 3, .inl f_t_read_water_way)), (a_t, .inr (3, [.ref a_t_tape, .int i_t_size, .int i_t_place, .int i_t_fault, .ref a_t_read])), (a_t_tape, .inl (cyI, 120, .inl f_t_tape))] H := hP
  replace hD : va_D A [(a_t_read, .inr (2, [.int i_t_read_reaches, .int i_t_read_span, .int i_t_read_sum, .int i_t_read_odds, .ref a_t_read_bank, .ref a_t_read_mill, .ref a_t_read_hung, .ref a_t_read_water])), (a_t_read_bank, .inl (cyI, 3, .inl f_t_read_bank)), (a_t_read_mill, .inl (cyI, 3, .inl f_t_read_mill)), (a_t_read_hung, .inl (cyI, 3, .inl f_t_read_hung)), (a_t_read_water, .inr (7, [.ref a_t_read_water_level, .ref a_t_read_water_boards, .ref a_t_read_water_way, w_t_read_water_beforeRain, w_t_read_water_hour, w_t_read_water_rainBefore, w_t_read_water_next])), (a_t_read_water_level, .inl (cyI, 3, .inl f_t_read_water_level)), (a_t_read_water_boards, .inl (cyI, 3, .inl f_t_read_water_boards)), (a_t_read_water_way, .inl (cyI, 3, .inl f_t_read_water_way)), (a_t, .inr (3, [.ref a_t_tape, .int i_t_size, .int i_t_place, .int i_t_fault, .ref a_t_read])), (a_t_tape, .inl (cyI, 120, .inl f_t_tape))] := hD
  refine lv_bipush (v := 114) hx hb dX4_readClause_4 (by decide) ?_
  refine lv_icmp_ne (tgt := 27) hx hb dX4_readClause_6 (by decide) (fun c2 => ?_) (fun c2 => ?_)
  · replace hw := hw.2 c2
    have hPj := hP.sub (ws' := [(a_t, .inr (3, [.ref a_t_tape, .int i_t_size, .int i_t_place, .int i_t_fault, .ref a_t_read])), (a_t_tape, .inl (cyI, 120, .inl f_t_tape)), (a_t_read, .inr (2, [.int i_t_read_reaches, .int i_t_read_span, .int i_t_read_sum, .int i_t_read_odds, .ref a_t_read_bank, .ref a_t_read_mill, .ref a_t_read_hung, .ref a_t_read_water])), (a_t_read_bank, .inl (cyI, 3, .inl f_t_read_bank)), (a_t_read_mill, .inl (cyI, 3, .inl f_t_read_mill)), (a_t_read_hung, .inl (cyI, 3, .inl f_t_read_hung)), (a_t_read_water, .inr (7, [.ref a_t_read_water_level, .ref a_t_read_water_boards, .ref a_t_read_water_way, w_t_read_water_beforeRain, w_t_read_water_hour, w_t_read_water_rainBefore, w_t_read_water_next])), (a_t_read_water_level, .inl (cyI, 3, .inl f_t_read_water_level)), (a_t_read_water_boards, .inl (cyI, 3, .inl f_t_read_water_boards)), (a_t_read_water_way, .inl (cyI, 3, .inl f_t_read_water_way))]) [8, 9, 0, 1, 2, 3, 4, 5, 6, 7] rfl
    have hDj := hD.sub (ws' := [(a_t, .inr (3, [.ref a_t_tape, .int i_t_size, .int i_t_place, .int i_t_fault, .ref a_t_read])), (a_t_tape, .inl (cyI, 120, .inl f_t_tape)), (a_t_read, .inr (2, [.int i_t_read_reaches, .int i_t_read_span, .int i_t_read_sum, .int i_t_read_odds, .ref a_t_read_bank, .ref a_t_read_mill, .ref a_t_read_hung, .ref a_t_read_water])), (a_t_read_bank, .inl (cyI, 3, .inl f_t_read_bank)), (a_t_read_mill, .inl (cyI, 3, .inl f_t_read_mill)), (a_t_read_hung, .inl (cyI, 3, .inl f_t_read_hung)), (a_t_read_water, .inr (7, [.ref a_t_read_water_level, .ref a_t_read_water_boards, .ref a_t_read_water_way, w_t_read_water_beforeRain, w_t_read_water_hour, w_t_read_water_rainBefore, w_t_read_water_next])), (a_t_read_water_level, .inl (cyI, 3, .inl f_t_read_water_level)), (a_t_read_water_boards, .inl (cyI, 3, .inl f_t_read_water_boards)), (a_t_read_water_way, .inl (cyI, 3, .inl f_t_read_water_way))]) [8, 9, 0, 1, 2, 3, 4, 5, 6, 7] (by decide) rfl
    exact B27 i_t_place i_t_fault i_t_read_reaches i_t_read_span i_t_read_sum i_t_read_odds f_t_read_bank f_t_read_mill f_t_read_hung f_t_read_water_level f_t_read_water_boards f_t_read_water_way hw _ _ hPj hDj hS _ (lv_sub hl [0] rfl)
  · replace hw := hw.1 c2
    refine lv_aload_n hx hb dX4_readClause_9 rfl (lv_at hl 0 rfl) ?_
    refine va_get (D := D) (ci := 3) (v := .ref a_t_read) (C := RX4) (T := TX4) (N := 5) hx hb hts inX4_readClause_X4 hown hK hP 8 rfl rfl 4 (by decide) (hts _ (List.mem_of_getElem? (i := 1) rfl)) (fun _ h9 => h9) rfl dX4_readClause_10 ?_
    refine va_get (D := D) (ci := 2) (v := .int i_t_read_reaches) (C := RX3) (T := TX3) (N := 8) hx hb hts inX4_readClause_X3 hown hK hP 0 rfl rfl 0 (by decide) (hts _ (List.mem_of_getElem? (i := 2) rfl)) (fun _ h9 => h9) rfl dX4_readClause_13 ?_
    refine lv_iconst (v := 3) hx hb dX4_readClause_16 (by decide) ?_
    refine lv_icmp_ge (tgt := 27) hx hb dX4_readClause_17 (by decide) (fun c19 => ?_) (fun c19 => ?_)
    · replace hw := hw.1 c19
      have hPj := hP.sub (ws' := [(a_t, .inr (3, [.ref a_t_tape, .int i_t_size, .int i_t_place, .int i_t_fault, .ref a_t_read])), (a_t_tape, .inl (cyI, 120, .inl f_t_tape)), (a_t_read, .inr (2, [.int i_t_read_reaches, .int i_t_read_span, .int i_t_read_sum, .int i_t_read_odds, .ref a_t_read_bank, .ref a_t_read_mill, .ref a_t_read_hung, .ref a_t_read_water])), (a_t_read_bank, .inl (cyI, 3, .inl f_t_read_bank)), (a_t_read_mill, .inl (cyI, 3, .inl f_t_read_mill)), (a_t_read_hung, .inl (cyI, 3, .inl f_t_read_hung)), (a_t_read_water, .inr (7, [.ref a_t_read_water_level, .ref a_t_read_water_boards, .ref a_t_read_water_way, w_t_read_water_beforeRain, w_t_read_water_hour, w_t_read_water_rainBefore, w_t_read_water_next])), (a_t_read_water_level, .inl (cyI, 3, .inl f_t_read_water_level)), (a_t_read_water_boards, .inl (cyI, 3, .inl f_t_read_water_boards)), (a_t_read_water_way, .inl (cyI, 3, .inl f_t_read_water_way))]) [8, 9, 0, 1, 2, 3, 4, 5, 6, 7] rfl
      have hDj := hD.sub (ws' := [(a_t, .inr (3, [.ref a_t_tape, .int i_t_size, .int i_t_place, .int i_t_fault, .ref a_t_read])), (a_t_tape, .inl (cyI, 120, .inl f_t_tape)), (a_t_read, .inr (2, [.int i_t_read_reaches, .int i_t_read_span, .int i_t_read_sum, .int i_t_read_odds, .ref a_t_read_bank, .ref a_t_read_mill, .ref a_t_read_hung, .ref a_t_read_water])), (a_t_read_bank, .inl (cyI, 3, .inl f_t_read_bank)), (a_t_read_mill, .inl (cyI, 3, .inl f_t_read_mill)), (a_t_read_hung, .inl (cyI, 3, .inl f_t_read_hung)), (a_t_read_water, .inr (7, [.ref a_t_read_water_level, .ref a_t_read_water_boards, .ref a_t_read_water_way, w_t_read_water_beforeRain, w_t_read_water_hour, w_t_read_water_rainBefore, w_t_read_water_next])), (a_t_read_water_level, .inl (cyI, 3, .inl f_t_read_water_level)), (a_t_read_water_boards, .inl (cyI, 3, .inl f_t_read_water_boards)), (a_t_read_water_way, .inl (cyI, 3, .inl f_t_read_water_way))]) [8, 9, 0, 1, 2, 3, 4, 5, 6, 7] (by decide) rfl
      exact B27 i_t_place i_t_fault i_t_read_reaches i_t_read_span i_t_read_sum i_t_read_odds f_t_read_bank f_t_read_mill f_t_read_hung f_t_read_water_level f_t_read_water_boards f_t_read_water_way hw _ _ hPj hDj hS _ (lv_sub hl [0] rfl)
    · replace hw := hw.2 c19
      refine lv_aload_n hx hb dX4_readClause_20 rfl (lv_at hl 0 rfl) ?_
      obtain ⟨QK, eQ, hq⟩ := genq (P := WX4_readReach i_t_size i_t_place i_t_fault f_t_tape i_t_read_reaches f_t_read_bank f_t_read_mill f_t_read_hung f_t_read_water_level f_t_read_water_boards f_t_read_water_way) hw
      clear hw
      have hPc := hP.sub (ws' := [(a_t, .inr (3, [.ref a_t_tape, .int i_t_size, .int i_t_place, .int i_t_fault, .ref a_t_read])), (a_t_tape, .inl (cyI, 120, .inl f_t_tape)), (a_t_read, .inr (2, [.int i_t_read_reaches, .int i_t_read_span, .int i_t_read_sum, .int i_t_read_odds, .ref a_t_read_bank, .ref a_t_read_mill, .ref a_t_read_hung, .ref a_t_read_water])), (a_t_read_bank, .inl (cyI, 3, .inl f_t_read_bank)), (a_t_read_mill, .inl (cyI, 3, .inl f_t_read_mill)), (a_t_read_hung, .inl (cyI, 3, .inl f_t_read_hung)), (a_t_read_water, .inr (7, [.ref a_t_read_water_level, .ref a_t_read_water_boards, .ref a_t_read_water_way, w_t_read_water_beforeRain, w_t_read_water_hour, w_t_read_water_rainBefore, w_t_read_water_next])), (a_t_read_water_level, .inl (cyI, 3, .inl f_t_read_water_level)), (a_t_read_water_boards, .inl (cyI, 3, .inl f_t_read_water_boards)), (a_t_read_water_way, .inl (cyI, 3, .inl f_t_read_water_way))]) [8, 9, 0, 1, 2, 3, 4, 5, 6, 7] rfl
      have hDc := hD.sub (ws' := [(a_t, .inr (3, [.ref a_t_tape, .int i_t_size, .int i_t_place, .int i_t_fault, .ref a_t_read])), (a_t_tape, .inl (cyI, 120, .inl f_t_tape)), (a_t_read, .inr (2, [.int i_t_read_reaches, .int i_t_read_span, .int i_t_read_sum, .int i_t_read_odds, .ref a_t_read_bank, .ref a_t_read_mill, .ref a_t_read_hung, .ref a_t_read_water])), (a_t_read_bank, .inl (cyI, 3, .inl f_t_read_bank)), (a_t_read_mill, .inl (cyI, 3, .inl f_t_read_mill)), (a_t_read_hung, .inl (cyI, 3, .inl f_t_read_hung)), (a_t_read_water, .inr (7, [.ref a_t_read_water_level, .ref a_t_read_water_boards, .ref a_t_read_water_way, w_t_read_water_beforeRain, w_t_read_water_hour, w_t_read_water_rainBefore, w_t_read_water_next])), (a_t_read_water_level, .inl (cyI, 3, .inl f_t_read_water_level)), (a_t_read_water_boards, .inl (cyI, 3, .inl f_t_read_water_boards)), (a_t_read_water_way, .inl (cyI, 3, .inl f_t_read_water_way))]) [8, 9, 0, 1, 2, 3, 4, 5, 6, 7] (by decide) rfl
      have hFc := va_free (wc := [(a_t, .inr (3, [.ref a_t_tape, .int i_t_size, .int i_t_place, .int i_t_fault, .ref a_t_read])), (a_t_tape, .inl (cyI, 120, .inl f_t_tape)), (a_t_read, .inr (2, [.int i_t_read_reaches, .int i_t_read_span, .int i_t_read_sum, .int i_t_read_odds, .ref a_t_read_bank, .ref a_t_read_mill, .ref a_t_read_hung, .ref a_t_read_water])), (a_t_read_bank, .inl (cyI, 3, .inl f_t_read_bank)), (a_t_read_mill, .inl (cyI, 3, .inl f_t_read_mill)), (a_t_read_hung, .inl (cyI, 3, .inl f_t_read_hung)), (a_t_read_water, .inr (7, [.ref a_t_read_water_level, .ref a_t_read_water_boards, .ref a_t_read_water_way, w_t_read_water_beforeRain, w_t_read_water_hour, w_t_read_water_rainBefore, w_t_read_water_next])), (a_t_read_water_level, .inl (cyI, 3, .inl f_t_read_water_level)), (a_t_read_water_boards, .inl (cyI, 3, .inl f_t_read_water_boards)), (a_t_read_water_way, .inl (cyI, 3, .inl f_t_read_water_way))]) hD hS hA [8, 9, 0, 1, 2, 3, 4, 5, 6, 7] rfl
      refine va_callv (va_runV (As := []) (rest := []) ⟨hx, hb, hml, hown, hts⟩ (MX4_readReach l D cyI cyZ cyC ro ce cin ad a_t a_t_tape a_t_read a_t_read_bank a_t_read_mill a_t_read_hung a_t_read_water a_t_read_water_level a_t_read_water_boards a_t_read_water_way  (.int i_t_read_span) (.int i_t_read_sum) (.int i_t_read_odds) (w_t_read_water_beforeRain) (w_t_read_water_hour) (w_t_read_water_rainBefore) (w_t_read_water_next) H.size i_t_size i_t_place i_t_fault f_t_tape i_t_read_reaches f_t_read_bank f_t_read_mill f_t_read_hung f_t_read_water_level f_t_read_water_boards f_t_read_water_way QK  hq) (cwV 0 hts gX4_readClause_X4_readReach rfl rfl rfl ⟨rfl, dmX4_readReach⟩ ⟨Nat.le_of_ble_eq_true rfl, Nat.le_of_ble_eq_true rfl⟩) ⟨pre_bl, va_recv hK hPc (ci := 3) (q0 := 0) rfl rfl, fun U hU hW => ⟨rfl, pre_of hX hS hK hPc hDc hFc hU hW⟩⟩ rfl rfl hl.1 rfl (lv_room (Nat.le_of_ble_eq_true rfl)) dX4_readClause_21 ⟨Nat.zero_le _, Nat.zero_le _⟩) hS (fun q _ h => hFc q h) hFc (fun u t H1 locs ht hvm hw hB hz1 hk1 hS => ?_)
      obtain ⟨i_t_place_20, i_t_fault_21, i_t_read_reaches_22, f_t_read_bank_23, f_t_read_mill_24, f_t_read_hung_25, f_t_read_water_level_26, f_t_read_water_boards_27, f_t_read_water_way_28⟩ := u
      replace hw : QK i_t_place_20 i_t_fault_21 i_t_read_reaches_22 f_t_read_bank_23 f_t_read_mill_24 f_t_read_hung_25 f_t_read_water_level_26 f_t_read_water_boards_27 f_t_read_water_way_28 := hw
      clear hq
      subst eQ
      obtain ⟨hP1, hD1⟩ := hB
      rw [ht] at hP1
      obtain ⟨hP, hD⟩ := va_join (wr := []) (w1 := [(a_t, .inr (3, [.ref a_t_tape, .int i_t_size, .int i_t_place_20, .int i_t_fault_21, .ref a_t_read])), (a_t_tape, .inl (cyI, 120, .inl f_t_tape)), (a_t_read, .inr (2, [.int i_t_read_reaches_22, .int i_t_read_span, .int i_t_read_sum, .int i_t_read_odds, .ref a_t_read_bank, .ref a_t_read_mill, .ref a_t_read_hung, .ref a_t_read_water])), (a_t_read_bank, .inl (cyI, 3, .inl f_t_read_bank_23)), (a_t_read_mill, .inl (cyI, 3, .inl f_t_read_mill_24)), (a_t_read_hung, .inl (cyI, 3, .inl f_t_read_hung_25)), (a_t_read_water, .inr (7, [.ref a_t_read_water_level, .ref a_t_read_water_boards, .ref a_t_read_water_way, w_t_read_water_beforeRain, w_t_read_water_hour, w_t_read_water_rainBefore, w_t_read_water_next])), (a_t_read_water_level, .inl (cyI, 3, .inl f_t_read_water_level_26)), (a_t_read_water_boards, .inl (cyI, 3, .inl f_t_read_water_boards_27)), (a_t_read_water_way, .inl (cyI, 3, .inl f_t_read_water_way_28))]) hP hD [8, 9, 0, 1, 2, 3, 4, 5, 6, 7] [] rfl rfl (by decide) (by decide) hk1 hFc hP1 hD1
      clear hPc hDc hFc hk1 hz1 hP1 hD1 ht hvm
      generalize H1 = H at hP hS ⊢
      replace hP : va_P D vwCl [(a_t, .inr (3, [.ref a_t_tape, .int i_t_size, .int i_t_place_20, .int i_t_fault_21, .ref a_t_read])), (a_t_tape, .inl (cyI, 120, .inl f_t_tape)), (a_t_read, .inr (2, [.int i_t_read_reaches_22, .int i_t_read_span, .int i_t_read_sum, .int i_t_read_odds, .ref a_t_read_bank, .ref a_t_read_mill, .ref a_t_read_hung, .ref a_t_read_water])), (a_t_read_bank, .inl (cyI, 3, .inl f_t_read_bank_23)), (a_t_read_mill, .inl (cyI, 3, .inl f_t_read_mill_24)), (a_t_read_hung, .inl (cyI, 3, .inl f_t_read_hung_25)), (a_t_read_water, .inr (7, [.ref a_t_read_water_level, .ref a_t_read_water_boards, .ref a_t_read_water_way, w_t_read_water_beforeRain, w_t_read_water_hour, w_t_read_water_rainBefore, w_t_read_water_next])), (a_t_read_water_level, .inl (cyI, 3, .inl f_t_read_water_level_26)), (a_t_read_water_boards, .inl (cyI, 3, .inl f_t_read_water_boards_27)), (a_t_read_water_way, .inl (cyI, 3, .inl f_t_read_water_way_28))] H := hP
      replace hD : va_D A [(a_t, .inr (3, [.ref a_t_tape, .int i_t_size, .int i_t_place_20, .int i_t_fault_21, .ref a_t_read])), (a_t_tape, .inl (cyI, 120, .inl f_t_tape)), (a_t_read, .inr (2, [.int i_t_read_reaches_22, .int i_t_read_span, .int i_t_read_sum, .int i_t_read_odds, .ref a_t_read_bank, .ref a_t_read_mill, .ref a_t_read_hung, .ref a_t_read_water])), (a_t_read_bank, .inl (cyI, 3, .inl f_t_read_bank_23)), (a_t_read_mill, .inl (cyI, 3, .inl f_t_read_mill_24)), (a_t_read_hung, .inl (cyI, 3, .inl f_t_read_hung_25)), (a_t_read_water, .inr (7, [.ref a_t_read_water_level, .ref a_t_read_water_boards, .ref a_t_read_water_way, w_t_read_water_beforeRain, w_t_read_water_hour, w_t_read_water_rainBefore, w_t_read_water_next])), (a_t_read_water_level, .inl (cyI, 3, .inl f_t_read_water_level_26)), (a_t_read_water_boards, .inl (cyI, 3, .inl f_t_read_water_boards_27)), (a_t_read_water_way, .inl (cyI, 3, .inl f_t_read_water_way_28))] := hD
      refine lv_goto (tgt := 79) hx hb dX4_readClause_24 (by decide) ?_
      exact W.vret hx hb hr (fun t ht hW => ⟨⟨(i_t_place_20, i_t_fault_21, i_t_read_reaches_22, i_t_read_span, i_t_read_sum, i_t_read_odds, f_t_read_bank_23, f_t_read_mill_24, f_t_read_hung_25, f_t_read_water_level_26, f_t_read_water_boards_27, f_t_read_water_way_28), rfl, hw, post_mk ht hP hD⟩, hS.F ht⟩) hS.2.2 dX4_readClause_79 hlocks
