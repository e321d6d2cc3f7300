/-! ===== by program: contracts ===== -/
set_option maxHeartbeats 8000000 in
set_option maxRecDepth 100000 in
theorem MX3_init (l : Launch) (D : va_G) (cyI cyZ cyC : ClassId) (ro : va_W) (ce : Nat → CT) (cin : Nat → Prop) (ad : AD) (a_t : Nat) (w_t_reaches w_t_span w_t_sum w_t_odds w_t_bank w_t_mill w_t_hung w_t_water : Value) (sz : Nat)  : Met l yX3_init wsX3_init ({ frames := 2, cells := 8, slots := 28, locals := 33 }) (va_Pc [.ref a_t] (PRE D cyI cyZ cyC ro ce cin ad (SX3_init cyI cyZ cyC a_t w_t_reaches w_t_span w_t_sum w_t_odds w_t_bank w_t_mill w_t_hung w_t_water) sz)) (va_Qv (fun (_ : Nat × Nat × Nat × Nat × Nat × Nat × Nat × Nat) => True) (fun (u : Nat × Nat × Nat × Nat × Nat × Nat × Nat × Nat) (t : State) => POST D (va_A (SX3_init cyI cyZ cyC a_t w_t_reaches w_t_span w_t_sum w_t_odds w_t_bank w_t_mill w_t_hung w_t_water) sz) (OX3_init cyI cyZ cyC a_t w_t_reaches w_t_span w_t_sum w_t_odds w_t_bank w_t_mill w_t_hung w_t_water   u.1 u.2.1 u.2.2.1 u.2.2.2.1 u.2.2.2.2.1 u.2.2.2.2.2.1 u.2.2.2.2.2.2.1 u.2.2.2.2.2.2.2) t) (va_A (SX3_init cyI cyZ cyC a_t w_t_reaches w_t_span w_t_sum w_t_odds w_t_bank w_t_mill w_t_hung w_t_water) sz)) 8 28 (va_A (SX3_init cyI cyZ cyC a_t w_t_reaches w_t_span w_t_sum w_t_odds w_t_bank w_t_mill w_t_hung w_t_water) sz) := by
  refine Met.ofW (cc := cX3_init) (maxL := 1) (ret := none) (by decide) rfl ?_
  intro p e s m args below meth c s₁ B hml hv
  obtain ⟨rfl, hsz, hP, hK, hD0, hX⟩ := hv
  have hx := B.exec
  have hb := B.bytes
  have hr := B.returns
  have hts := atoms_spec (ws := wsX3_init) B.pre
  have hown : s.vm.findClass RX3 = some m.cls := findClass_of_methodNamed B.named
  have hlocks := B.notSynchronized
  have hin : meth.name = "<init>" := (name_of_methodNamed B.named B.method).1
  clear B
  subst hsz
  have hD := hD0.self (sz := s.heap.size)
  clear hD0
  generalize hAe : va_A (SX3_init cyI cyZ cyC a_t w_t_reaches w_t_span w_t_sum w_t_odds w_t_bank w_t_mill w_t_hung w_t_water) s.heap.size = A at hD hX ⊢
  have hA : ∀ q : Nat, s.heap.size ≤ q → A q := fun q h => by rw [← hAe]; exact Or.inr h
  clear hAe
  obtain ⟨H, hH⟩ : ∃ H, H = s.heap := ⟨_, rfl⟩
  rw [← hH] at hP ⊢
  have hS : va_S A s.heap H [] := by rw [hH]; exact va_S.rf
  clear hH
  replace hP : va_P D vwCl [(a_t, .inr (2, [w_t_reaches, w_t_span, w_t_sum, w_t_odds, w_t_bank, w_t_mill, w_t_hung, w_t_water]))] H := hP
  replace hD : va_D A [(a_t, .inr (2, [w_t_reaches, w_t_span, w_t_sum, w_t_odds, w_t_bank, w_t_mill, w_t_hung, w_t_water]))] := hD
  have hl := lv_entry ([.ref a_t]) (n := 1) (Nat.le_of_ble_eq_true rfl)
  rw [lg_entry_eq]
  generalize (lg_sl ([.ref a_t]) ++ List.replicate (1 - (lg_sl ([.ref a_t])).length) Slot.unset).toArray = ls at hl ⊢
  replace hl : lv_has ls 1 [(0, .ref a_t)] := hl
  refine lv_aload_n hx hb dX3_init_0 rfl (lv_at hl 0 rfl) ?_
  refine W.objInit hx hb hown (hts _ (List.mem_of_getElem? (i := 1) rfl)) (hts _ (List.mem_of_getElem? (i := 2) rfl)) (hts _ (List.mem_of_getElem? (i := 3) rfl)) rfl (by rw [hml]; exact hl.1) rfl dX3_init_1 (Nat.le_of_ble_eq_true rfl) (Nat.le_of_ble_eq_true rfl) ?_
  refine W.eq (g2 := F0 m 4 ls []) rfl ?_
  refine lv_aload_n hx hb dX3_init_4 rfl (lv_at hl 0 rfl) ?_
  refine lv_iconst (v := 0) hx hb dX3_init_5 (by decide) ?_
  refine va_put (D := D) (ci := 2) (v := .int 0) (ty := .int) (C := RX3) (T := TX3) (N := 8) hx hb hts inX3_init_X3 tyX3 tyX3_ok nmX3 hown hK hP hD hS 0 rfl rfl 0 (by decide) (hts _ (List.mem_of_getElem? (i := 4) rfl)) (fun _ h9 => h9) rfl (tyX3_ok 0 (by decide)) rfl rfl (Nat.le_of_ble_eq_true rfl) dX3_init_6 (fun H locs hP hD hS => ?_)
  replace hP : va_P D vwCl [(a_t, .inr (2, [.int 0, w_t_span, w_t_sum, w_t_odds, w_t_bank, w_t_mill, w_t_hung, w_t_water]))] H := hP
  replace hD : va_D A [(a_t, .inr (2, [.int 0, w_t_span, w_t_sum, w_t_odds, w_t_bank, w_t_mill, w_t_hung, w_t_water]))] := hD
  refine lv_aload_n hx hb dX3_init_9 rfl (lv_at hl 0 rfl) ?_
  refine lv_iconst (v := 0) hx hb dX3_init_10 (by decide) ?_
  refine va_put (D := D) (ci := 2) (v := .int 0) (ty := .int) (C := RX3) (T := TX3) (N := 8) hx hb hts inX3_init_X3 tyX3 tyX3_ok nmX3 hown hK hP hD hS 0 rfl rfl 1 (by decide) (hts _ (List.mem_of_getElem? (i := 5) rfl)) (fun _ h9 => h9) rfl (tyX3_ok 1 (by decide)) rfl rfl (Nat.le_of_ble_eq_true rfl) dX3_init_11 (fun H locs hP hD hS => ?_)
  replace hP : va_P D vwCl [(a_t, .inr (2, [.int 0, .int 0, w_t_sum, w_t_odds, w_t_bank, w_t_mill, w_t_hung, w_t_water]))] H := hP
  replace hD : va_D A [(a_t, .inr (2, [.int 0, .int 0, w_t_sum, w_t_odds, w_t_bank, w_t_mill, w_t_hung, w_t_water]))] := hD
  refine lv_aload_n hx hb dX3_init_14 rfl (lv_at hl 0 rfl) ?_
  refine lv_iconst (v := 0) hx hb dX3_init_15 (by decide) ?_
  refine va_put (D := D) (ci := 2) (v := .int 0) (ty := .int) (C := RX3) (T := TX3) (N := 8) hx hb hts inX3_init_X3 tyX3 tyX3_ok nmX3 hown hK hP hD hS 0 rfl rfl 2 (by decide) (hts _ (List.mem_of_getElem? (i := 6) rfl)) (fun _ h9 => h9) rfl (tyX3_ok 2 (by decide)) rfl rfl (Nat.le_of_ble_eq_true rfl) dX3_init_16 (fun H locs hP hD hS => ?_)
  replace hP : va_P D vwCl [(a_t, .inr (2, [.int 0, .int 0, .int 0, w_t_odds, w_t_bank, w_t_mill, w_t_hung, w_t_water]))] H := hP
  replace hD : va_D A [(a_t, .inr (2, [.int 0, .int 0, .int 0, w_t_odds, w_t_bank, w_t_mill, w_t_hung, w_t_water]))] := hD
  refine lv_aload_n hx hb dX3_init_19 rfl (lv_at hl 0 rfl) ?_
  refine lv_iconst (v := 0) hx hb dX3_init_20 (by decide) ?_
  refine va_put (D := D) (ci := 2) (v := .int 0) (ty := .int) (C := RX3) (T := TX3) (N := 8) hx hb hts inX3_init_X3 tyX3 tyX3_ok nmX3 hown hK hP hD hS 0 rfl rfl 3 (by decide) (hts _ (List.mem_of_getElem? (i := 7) rfl)) (fun _ h9 => h9) rfl (tyX3_ok 3 (by decide)) rfl rfl (Nat.le_of_ble_eq_true rfl) dX3_init_21 (fun H locs hP hD hS => ?_)
  replace hP : va_P D vwCl [(a_t, .inr (2, [.int 0, .int 0, .int 0, .int 0, w_t_bank, w_t_mill, w_t_hung, w_t_water]))] H := hP
  replace hD : va_D A [(a_t, .inr (2, [.int 0, .int 0, .int 0, .int 0, w_t_bank, w_t_mill, w_t_hung, w_t_water]))] := hD
  refine lv_aload_n hx hb dX3_init_24 rfl (lv_at hl 0 rfl) ?_
  refine lv_iconst (v := 3) hx hb dX3_init_25 (by decide) ?_
  refine va_newa (atype := .int) (ty := .int) (a0 := (3, .inl (fun _ => 0))) (N' := 3) hx hb (hts _ (List.mem_of_getElem? (i := 8) rfl)) rfl hK hP hD hS hA (fun c => va_zero c) (by decide) (by decide) (Nat.le_of_ble_eq_true rfl) (Nat.le_of_ble_eq_true rfl) (Nat.le_of_ble_eq_true rfl) dX3_init_26 (fun a_n26 cA H hK1 hP hD hS => ?_)
  have eC : cyI = cA := (k_cls (fun C h => by cases h) hK1 (i := 0) (j := 3) rfl rfl).symm
  subst eC
  clear hK1
  replace hP : va_P D vwCl [(a_t, .inr (2, [.int 0, .int 0, .int 0, .int 0, w_t_bank, w_t_mill, w_t_hung, w_t_water])), (a_n26, .inl (cyI, 3, .inl (fun _ => 0)))] H := hP
  replace hD : va_D A [(a_t, .inr (2, [.int 0, .int 0, .int 0, .int 0, w_t_bank, w_t_mill, w_t_hung, w_t_water])), (a_n26, .inl (cyI, 3, .inl (fun _ => 0)))] := hD
  refine va_putF (D := D) (ci := 2) (v := .ref a_n26) (ty := .array .int) (C := RX3) (T := TX3) (N := 8) hx hb hts inX3_init_X3 tyX3 tyX3_ok nmX3 hown hK hP hD hS 0 rfl rfl 4 (by decide) (hts _ (List.mem_of_getElem? (i := 9) rfl)) (fun _ h9 => h9) rfl hin rfl (tyX3_ok 4 (by decide)) rfl rfl (Nat.le_of_ble_eq_true rfl) dX3_init_28 (fun H locs hP hD hS => ?_)
  replace hP : va_P D vwCl [(a_t, .inr (2, [.int 0, .int 0, .int 0, .int 0, .ref a_n26, w_t_mill, w_t_hung, w_t_water])), (a_n26, .inl (cyI, 3, .inl (fun _ => 0)))] H := hP
  replace hD : va_D A [(a_t, .inr (2, [.int 0, .int 0, .int 0, .int 0, .ref a_n26, w_t_mill, w_t_hung, w_t_water])), (a_n26, .inl (cyI, 3, .inl (fun _ => 0)))] := hD
  refine lv_aload_n hx hb dX3_init_31 rfl (lv_at hl 0 rfl) ?_
  refine lv_iconst (v := 3) hx hb dX3_init_32 (by decide) ?_
  refine va_newa (atype := .int) (ty := .int) (a0 := (3, .inl (fun _ => 0))) (N' := 3) hx hb (hts _ (List.mem_of_getElem? (i := 8) rfl)) rfl hK hP hD hS hA (fun c => va_zero c) (by decide) (by decide) (Nat.le_of_ble_eq_true rfl) (Nat.le_of_ble_eq_true rfl) (Nat.le_of_ble_eq_true rfl) dX3_init_33 (fun a_n33 cA H hK1 hP hD hS => ?_)
  have eC : cyI = cA := (k_cls (fun C h => by cases h) hK1 (i := 0) (j := 3) rfl rfl).symm
  subst eC
  clear hK1
  replace hP : va_P D vwCl [(a_t, .inr (2, [.int 0, .int 0, .int 0, .int 0, .ref a_n26, w_t_mill, w_t_hung, w_t_water])), (a_n26, .inl (cyI, 3, .inl (fun _ => 0))), (a_n33, .inl (cyI, 3, .inl (fun _ => 0)))] H := hP
  replace hD : va_D A [(a_t, .inr (2, [.int 0, .int 0, .int 0, .int 0, .ref a_n26, w_t_mill, w_t_hung, w_t_water])), (a_n26, .inl (cyI, 3, .inl (fun _ => 0))), (a_n33, .inl (cyI, 3, .inl (fun _ => 0)))] := hD
  refine va_putF (D := D) (ci := 2) (v := .ref a_n33) (ty := .array .int) (C := RX3) (T := TX3) (N := 8) hx hb hts inX3_init_X3 tyX3 tyX3_ok nmX3 hown hK hP hD hS 0 rfl rfl 5 (by decide) (hts _ (List.mem_of_getElem? (i := 10) rfl)) (fun _ h9 => h9) rfl hin rfl (tyX3_ok 5 (by decide)) rfl rfl (Nat.le_of_ble_eq_true rfl) dX3_init_35 (fun H locs hP hD hS => ?_)
  replace hP : va_P D vwCl [(a_t, .inr (2, [.int 0, .int 0, .int 0, .int 0, .ref a_n26, .ref a_n33, w_t_hung, w_t_water])), (a_n26, .inl (cyI, 3, .inl (fun _ => 0))), (a_n33, .inl (cyI, 3, .inl (fun _ => 0)))] H := hP
  replace hD : va_D A [(a_t, .inr (2, [.int 0, .int 0, .int 0, .int 0, .ref a_n26, .ref a_n33, w_t_hung, w_t_water])), (a_n26, .inl (cyI, 3, .inl (fun _ => 0))), (a_n33, .inl (cyI, 3, .inl (fun _ => 0)))] := hD
  refine lv_aload_n hx hb dX3_init_38 rfl (lv_at hl 0 rfl) ?_
  refine lv_iconst (v := 3) hx hb dX3_init_39 (by decide) ?_
  refine va_newa (atype := .int) (ty := .int) (a0 := (3, .inl (fun _ => 0))) (N' := 3) hx hb (hts _ (List.mem_of_getElem? (i := 8) rfl)) rfl hK hP hD hS hA (fun c => va_zero c) (by decide) (by decide) (Nat.le_of_ble_eq_true rfl) (Nat.le_of_ble_eq_true rfl) (Nat.le_of_ble_eq_true rfl) dX3_init_40 (fun a_n40 cA H hK1 hP hD hS => ?_)
  have eC : cyI = cA := (k_cls (fun C h => by cases h) hK1 (i := 0) (j := 3) rfl rfl).symm
  subst eC
  clear hK1
  replace hP : va_P D vwCl [(a_t, .inr (2, [.int 0, .int 0, .int 0, .int 0, .ref a_n26, .ref a_n33, w_t_hung, w_t_water])), (a_n26, .inl (cyI, 3, .inl (fun _ => 0))), (a_n33, .inl (cyI, 3, .inl (fun _ => 0))), (a_n40, .inl (cyI, 3, .inl (fun _ => 0)))] H := hP
  replace hD : va_D A [(a_t, .inr (2, [.int 0, .int 0, .int 0, .int 0, .ref a_n26, .ref a_n33, w_t_hung, w_t_water])), (a_n26, .inl (cyI, 3, .inl (fun _ => 0))), (a_n33, .inl (cyI, 3, .inl (fun _ => 0))), (a_n40, .inl (cyI, 3, .inl (fun _ => 0)))] := hD
  refine va_putF (D := D) (ci := 2) (v := .ref a_n40) (ty := .array .int) (C := RX3) (T := TX3) (N := 8) hx hb hts inX3_init_X3 tyX3 tyX3_ok nmX3 hown hK hP hD hS 0 rfl rfl 6 (by decide) (hts _ (List.mem_of_getElem? (i := 11) rfl)) (fun _ h9 => h9) rfl hin rfl (tyX3_ok 6 (by decide)) rfl rfl (Nat.le_of_ble_eq_true rfl) dX3_init_42 (fun H locs hP hD hS => ?_)
  replace hP : va_P D vwCl [(a_t, .inr (2, [.int 0, .int 0, .int 0, .int 0, .ref a_n26, .ref a_n33, .ref a_n40, w_t_water])), (a_n26, .inl (cyI, 3, .inl (fun _ => 0))), (a_n33, .inl (cyI, 3, .inl (fun _ => 0))), (a_n40, .inl (cyI, 3, .inl (fun _ => 0)))] H := hP
  replace hD : va_D A [(a_t, .inr (2, [.int 0, .int 0, .int 0, .int 0, .ref a_n26, .ref a_n33, .ref a_n40, w_t_water])), (a_n26, .inl (cyI, 3, .inl (fun _ => 0))), (a_n33, .inl (cyI, 3, .inl (fun _ => 0))), (a_n40, .inl (cyI, 3, .inl (fun _ => 0)))] := hD
  refine lv_aload_n hx hb dX3_init_45 rfl (lv_at hl 0 rfl) ?_
  refine va_new (ci := 7) (fs := [.null, .null, .null, .null, .int 0, .int 0, .null]) (C := RX8) (T := TX8) (N := 7) hx hb hts inX3_init_X8 tyX8 tyX8_ok hown (hts _ (List.mem_of_getElem? (i := 12) rfl)) (hts _ (List.mem_of_getElem? (i := 13) rfl)) (hts _ (List.mem_of_getElem? (i := 14) rfl)) hK hP hD hS hA rfl dfX8 (Nat.le_of_ble_eq_true rfl) (Nat.le_of_ble_eq_true rfl) dX3_init_46 (fun a_n46 H hP hD hS => ?_)
  replace hP : va_P D vwCl [(a_t, .inr (2, [.int 0, .int 0, .int 0, .int 0, .ref a_n26, .ref a_n33, .ref a_n40, w_t_water])), (a_n26, .inl (cyI, 3, .inl (fun _ => 0))), (a_n33, .inl (cyI, 3, .inl (fun _ => 0))), (a_n40, .inl (cyI, 3, .inl (fun _ => 0))), (a_n46, .inr (7, [.null, .null, .null, .null, .int 0, .int 0, .null]))] H := hP
  replace hD : va_D A [(a_t, .inr (2, [.int 0, .int 0, .int 0, .int 0, .ref a_n26, .ref a_n33, .ref a_n40, w_t_water])), (a_n26, .inl (cyI, 3, .inl (fun _ => 0))), (a_n33, .inl (cyI, 3, .inl (fun _ => 0))), (a_n40, .inl (cyI, 3, .inl (fun _ => 0))), (a_n46, .inr (7, [.null, .null, .null, .null, .int 0, .int 0, .null]))] := hD
  refine lv_dup hx hb dX3_init_49 rfl ?_
  refine lv_null hx hb dX3_init_50 ?_
  have hPc := hP.sub (ws' := [(a_n46, .inr (7, [.null, .null, .null, .null, .int 0, .int 0, .null]))]) [4] rfl
  have hDc := hD.sub (ws' := [(a_n46, .inr (7, [.null, .null, .null, .null, .int 0, .int 0, .null]))]) [4] (by decide) rfl
  have hFc := va_free (wc := [(a_n46, .inr (7, [.null, .null, .null, .null, .int 0, .int 0, .null]))]) hD hS hA [4] rfl
  refine va_callv (va_runI (As := [.null]) (rest := [.ref a_n46, .ref a_t]) ⟨hx, hb, hml, hown, hts⟩ (MX8_init_n l D cyI cyZ cyC ro ce cin ad a_n46 (.null) (.null) (.null) (.null) (.int 0) (.int 0) (.null) H.size ) (cwI 1 hts gX3_init_X8_init rfl rfl rfl (hts _ (List.mem_of_getElem? (i := 14) rfl)) (hts _ (List.mem_of_getElem? (i := 16) rfl)) (hts _ (List.mem_of_getElem? (i := 17) rfl)) rfl dmX8_init ⟨Nat.le_of_ble_eq_true rfl, Nat.le_of_ble_eq_true rfl⟩) ⟨pre_bl, fun U hU hW => ⟨rfl, pre_of hX hS hK hPc hDc hFc hU hW⟩⟩ rfl rfl hl.1 rfl (lv_room (Nat.le_of_ble_eq_true rfl)) dX3_init_51 ⟨Nat.le_of_ble_eq_true rfl, Nat.le_of_ble_eq_true rfl⟩) hS (fun q _ h => hFc q h) hFc (fun u t H1 locs ht hvm hw hB hz1 hk1 hS => ?_)
  obtain ⟨a_n46_level, a_n46_boards, a_n46_way, a_n46_beforeRain⟩ := u
  obtain ⟨hP1, hD1⟩ := hB
  rw [ht] at hP1
  obtain ⟨hP, hD⟩ := va_join (wr := [(a_t, .inr (2, [.int 0, .int 0, .int 0, .int 0, .ref a_n26, .ref a_n33, .ref a_n40, w_t_water])), (a_n26, .inl (cyI, 3, .inl (fun _ => 0))), (a_n33, .inl (cyI, 3, .inl (fun _ => 0))), (a_n40, .inl (cyI, 3, .inl (fun _ => 0)))]) (w1 := [(a_n46, .inr (7, [.ref a_n46_level, .ref a_n46_boards, .ref a_n46_way, .ref a_n46_beforeRain, .int 0, .int 0, .null])), (a_n46_level, .inl (cyI, 3, .inl (fun _ => 0))), (a_n46_boards, .inl (cyI, 3, .inl (fun _ => 0))), (a_n46_way, .inl (cyI, 3, .inl (fun _ => 0))), (a_n46_beforeRain, .inl (cyI, 3, .inl (fun _ => 0)))]) hP hD [4] [0, 1, 2, 3] rfl rfl (by decide) (by decide) hk1 hFc hP1 hD1
  clear hPc hDc hFc hk1 hz1 hP1 hD1 ht hvm hw
  generalize H1 = H at hP hS ⊢
  replace hP : va_P D vwCl [(a_t, .inr (2, [.int 0, .int 0, .int 0, .int 0, .ref a_n26, .ref a_n33, .ref a_n40, w_t_water])), (a_n26, .inl (cyI, 3, .inl (fun _ => 0))), (a_n33, .inl (cyI, 3, .inl (fun _ => 0))), (a_n40, .inl (cyI, 3, .inl (fun _ => 0))), (a_n46, .inr (7, [.ref a_n46_level, .ref a_n46_boards, .ref a_n46_way, .ref a_n46_beforeRain, .int 0, .int 0, .null])), (a_n46_level, .inl (cyI, 3, .inl (fun _ => 0))), (a_n46_boards, .inl (cyI, 3, .inl (fun _ => 0))), (a_n46_way, .inl (cyI, 3, .inl (fun _ => 0))), (a_n46_beforeRain, .inl (cyI, 3, .inl (fun _ => 0)))] H := hP
  replace hD : va_D A [(a_t, .inr (2, [.int 0, .int 0, .int 0, .int 0, .ref a_n26, .ref a_n33, .ref a_n40, w_t_water])), (a_n26, .inl (cyI, 3, .inl (fun _ => 0))), (a_n33, .inl (cyI, 3, .inl (fun _ => 0))), (a_n40, .inl (cyI, 3, .inl (fun _ => 0))), (a_n46, .inr (7, [.ref a_n46_level, .ref a_n46_boards, .ref a_n46_way, .ref a_n46_beforeRain, .int 0, .int 0, .null])), (a_n46_level, .inl (cyI, 3, .inl (fun _ => 0))), (a_n46_boards, .inl (cyI, 3, .inl (fun _ => 0))), (a_n46_way, .inl (cyI, 3, .inl (fun _ => 0))), (a_n46_beforeRain, .inl (cyI, 3, .inl (fun _ => 0)))] := hD
  refine va_putF (D := D) (ci := 2) (v := .ref a_n46) (ty := .object "SluiceCards$Water") (C := RX3) (T := TX3) (N := 8) hx hb hts inX3_init_X3 tyX3 tyX3_ok nmX3 hown hK hP hD hS 0 rfl rfl 7 (by decide) (hts _ (List.mem_of_getElem? (i := 15) rfl)) (fun _ h9 => h9) rfl hin rfl (tyX3_ok 7 (by decide)) rfl rfl (Nat.le_of_ble_eq_true rfl) dX3_init_54 (fun H locs hP hD hS => ?_)
  replace hP : va_P D vwCl [(a_t, .inr (2, [.int 0, .int 0, .int 0, .int 0, .ref a_n26, .ref a_n33, .ref a_n40, .ref a_n46])), (a_n26, .inl (cyI, 3, .inl (fun _ => 0))), (a_n33, .inl (cyI, 3, .inl (fun _ => 0))), (a_n40, .inl (cyI, 3, .inl (fun _ => 0))), (a_n46, .inr (7, [.ref a_n46_level, .ref a_n46_boards, .ref a_n46_way, .ref a_n46_beforeRain, .int 0, .int 0, .null])), (a_n46_level, .inl (cyI, 3, .inl (fun _ => 0))), (a_n46_boards, .inl (cyI, 3, .inl (fun _ => 0))), (a_n46_way, .inl (cyI, 3, .inl (fun _ => 0))), (a_n46_beforeRain, .inl (cyI, 3, .inl (fun _ => 0)))] H := hP
  replace hD : va_D A [(a_t, .inr (2, [.int 0, .int 0, .int 0, .int 0, .ref a_n26, .ref a_n33, .ref a_n40, .ref a_n46])), (a_n26, .inl (cyI, 3, .inl (fun _ => 0))), (a_n33, .inl (cyI, 3, .inl (fun _ => 0))), (a_n40, .inl (cyI, 3, .inl (fun _ => 0))), (a_n46, .inr (7, [.ref a_n46_level, .ref a_n46_boards, .ref a_n46_way, .ref a_n46_beforeRain, .int 0, .int 0, .null])), (a_n46_level, .inl (cyI, 3, .inl (fun _ => 0))), (a_n46_boards, .inl (cyI, 3, .inl (fun _ => 0))), (a_n46_way, .inl (cyI, 3, .inl (fun _ => 0))), (a_n46_beforeRain, .inl (cyI, 3, .inl (fun _ => 0)))] := hD
  have hPj := hP.sub (ws' := [(a_t, .inr (2, [.int 0, .int 0, .int 0, .int 0, .ref a_n26, .ref a_n33, .ref a_n40, .ref a_n46])), (a_n26, .inl (cyI, 3, .inl (fun _ => 0))), (a_n33, .inl (cyI, 3, .inl (fun _ => 0))), (a_n40, .inl (cyI, 3, .inl (fun _ => 0))), (a_n46, .inr (7, [.ref a_n46_level, .ref a_n46_boards, .ref a_n46_way, .ref a_n46_beforeRain, .int 0, .int 0, .null])), (a_n46_level, .inl (cyI, 3, .inl (fun _ => 0))), (a_n46_boards, .inl (cyI, 3, .inl (fun _ => 0))), (a_n46_way, .inl (cyI, 3, .inl (fun _ => 0))), (a_n46_beforeRain, .inl (cyI, 3, .inl (fun _ => 0)))]) [0, 1, 2, 3, 4, 5, 6, 7, 8] rfl
  have hDj := hD.sub (ws' := [(a_t, .inr (2, [.int 0, .int 0, .int 0, .int 0, .ref a_n26, .ref a_n33, .ref a_n40, .ref a_n46])), (a_n26, .inl (cyI, 3, .inl (fun _ => 0))), (a_n33, .inl (cyI, 3, .inl (fun _ => 0))), (a_n40, .inl (cyI, 3, .inl (fun _ => 0))), (a_n46, .inr (7, [.ref a_n46_level, .ref a_n46_boards, .ref a_n46_way, .ref a_n46_beforeRain, .int 0, .int 0, .null])), (a_n46_level, .inl (cyI, 3, .inl (fun _ => 0))), (a_n46_boards, .inl (cyI, 3, .inl (fun _ => 0))), (a_n46_way, .inl (cyI, 3, .inl (fun _ => 0))), (a_n46_beforeRain, .inl (cyI, 3, .inl (fun _ => 0)))]) [0, 1, 2, 3, 4, 5, 6, 7, 8] (by decide) rfl
  exact W.vret hx hb hr (fun t ht hW => ⟨⟨(a_n26, a_n33, a_n40, a_n46, a_n46_level, a_n46_boards, a_n46_way, a_n46_beforeRain), rfl, trivial, post_mk ht hPj hDj⟩, hS.F ht⟩) hS.2.2 dX3_init_57 hlocks
