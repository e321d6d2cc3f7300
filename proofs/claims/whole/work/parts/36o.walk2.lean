/-! ===== by program: contracts ===== -/
set_option maxHeartbeats 8000000 in
set_option maxRecDepth 100000 in
theorem MX8_init_r (l : Launch) (D : va_G) (cyI cyZ cyC : ClassId) (ro : va_W) (ce : Nat → CT) (cin : Nat → Prop) (ad : AD) (a_t a_p1 : Nat) (w_t_level w_t_boards w_t_way w_t_beforeRain w_t_hour w_t_rainBefore w_t_next : Value) (sz : Nat)  : Met l yX8_init wsX8_init ({ frames := 1, cells := 4, slots := 12, locals := 12 }) (va_Pc [.ref a_t, .ref a_p1] (PRE D cyI cyZ cyC ro ce cin ad (SX8_init_r cyI cyZ cyC a_t a_p1 w_t_level w_t_boards w_t_way w_t_beforeRain w_t_hour w_t_rainBefore w_t_next) sz)) (va_Qv (fun (_ : Nat × Nat × Nat × Nat) => True) (fun (u : Nat × Nat × Nat × Nat) (t : State) => POST D (va_A (SX8_init_r cyI cyZ cyC a_t a_p1 w_t_level w_t_boards w_t_way w_t_beforeRain w_t_hour w_t_rainBefore w_t_next) sz) (OX8_init_r cyI cyZ cyC a_t a_p1 w_t_level w_t_boards w_t_way w_t_beforeRain w_t_hour w_t_rainBefore w_t_next   u.1 u.2.1 u.2.2.1 u.2.2.2) t) (va_A (SX8_init_r cyI cyZ cyC a_t a_p1 w_t_level w_t_boards w_t_way w_t_beforeRain w_t_hour w_t_rainBefore w_t_next) sz)) 4 12 (va_A (SX8_init_r cyI cyZ cyC a_t a_p1 w_t_level w_t_boards w_t_way w_t_beforeRain w_t_hour w_t_rainBefore w_t_next) sz) := by
  refine Met.ofW (cc := cX8_init) (maxL := 2) (ret := none) (by decide) rfl ?_
  intro p e s m args below meth c s₁ B hml hv
  obtain ⟨rfl, hsz, hP, hK, hD0, hX⟩ := hv
  have hx := B.exec
  have hb := B.bytes
  have hr := B.returns
  have hts := atoms_spec (ws := wsX8_init) B.pre
  have hown : s.vm.findClass RX8 = some m.cls := findClass_of_methodNamed B.named
  have hlocks := B.notSynchronized
  have hin : meth.name = "<init>" := (name_of_methodNamed B.named B.method).1
  clear B
  subst hsz
  have hD := hD0.self (sz := s.heap.size)
  clear hD0
  generalize hAe : va_A (SX8_init_r cyI cyZ cyC a_t a_p1 w_t_level w_t_boards w_t_way w_t_beforeRain w_t_hour w_t_rainBefore w_t_next) s.heap.size = A at hD hX ⊢
  have hA : ∀ q : Nat, s.heap.size ≤ q → A q := fun q h => by rw [← hAe]; exact Or.inr h
  clear hAe
  obtain ⟨H, hH⟩ : ∃ H, H = s.heap := ⟨_, rfl⟩
  rw [← hH] at hP ⊢
  have hS : va_S A s.heap H [] := by rw [hH]; exact va_S.rf
  clear hH
  replace hP : va_P D vwCl [(a_t, .inr (7, [w_t_level, w_t_boards, w_t_way, w_t_beforeRain, w_t_hour, w_t_rainBefore, w_t_next]))] H := hP
  replace hD : va_D A [(a_t, .inr (7, [w_t_level, w_t_boards, w_t_way, w_t_beforeRain, w_t_hour, w_t_rainBefore, w_t_next]))] := hD
  have hl := lv_entry ([.ref a_t, .ref a_p1]) (n := 2) (Nat.le_of_ble_eq_true rfl)
  rw [lg_entry_eq]
  generalize (lg_sl ([.ref a_t, .ref a_p1]) ++ List.replicate (2 - (lg_sl ([.ref a_t, .ref a_p1])).length) Slot.unset).toArray = ls at hl ⊢
  replace hl : lv_has ls 2 [(0, .ref a_t), (1, .ref a_p1)] := hl
  refine lv_aload_n hx hb dX8_init_0 rfl (lv_at hl 0 rfl) ?_
  refine W.objInit hx hb hown (hts _ (List.mem_of_getElem? (i := 1) rfl)) (hts _ (List.mem_of_getElem? (i := 2) rfl)) (hts _ (List.mem_of_getElem? (i := 3) rfl)) rfl (by rw [hml]; exact hl.1) rfl dX8_init_1 (Nat.le_of_ble_eq_true rfl) (Nat.le_of_ble_eq_true rfl) ?_
  refine W.eq (g2 := F0 m 4 ls []) rfl ?_
  refine lv_aload_n hx hb dX8_init_4 rfl (lv_at hl 0 rfl) ?_
  refine lv_iconst (v := 3) hx hb dX8_init_5 (by decide) ?_
  refine va_newa (atype := .int) (ty := .int) (a0 := (3, .inl (fun _ => 0))) (N' := 3) hx hb (hts _ (List.mem_of_getElem? (i := 4) rfl)) rfl hK hP hD hS hA (fun c => va_zero c) (by decide) (by decide) (Nat.le_of_ble_eq_true rfl) (Nat.le_of_ble_eq_true rfl) (Nat.le_of_ble_eq_true rfl) dX8_init_6 (fun a_n6 cA H hK1 hP hD hS => ?_)
  have eC : cyI = cA := (k_cls (fun C h => by cases h) hK1 (i := 0) (j := 3) rfl rfl).symm
  subst eC
  clear hK1
  replace hP : va_P D vwCl [(a_t, .inr (7, [w_t_level, w_t_boards, w_t_way, w_t_beforeRain, w_t_hour, w_t_rainBefore, w_t_next])), (a_n6, .inl (cyI, 3, .inl (fun _ => 0)))] H := hP
  replace hD : va_D A [(a_t, .inr (7, [w_t_level, w_t_boards, w_t_way, w_t_beforeRain, w_t_hour, w_t_rainBefore, w_t_next])), (a_n6, .inl (cyI, 3, .inl (fun _ => 0)))] := hD
  refine va_putF (D := D) (ci := 7) (v := .ref a_n6) (ty := .array .int) (C := RX8) (T := TX8) (N := 7) hx hb hts inX8_init_X8 tyX8 tyX8_ok nmX8 hown hK hP hD hS 0 rfl rfl 0 (by decide) (hts _ (List.mem_of_getElem? (i := 5) rfl)) (fun _ h9 => h9) rfl hin rfl (tyX8_ok 0 (by decide)) rfl rfl (Nat.le_of_ble_eq_true rfl) dX8_init_8 (fun H locs hP hD hS => ?_)
  replace hP : va_P D vwCl [(a_t, .inr (7, [.ref a_n6, w_t_boards, w_t_way, w_t_beforeRain, w_t_hour, w_t_rainBefore, w_t_next])), (a_n6, .inl (cyI, 3, .inl (fun _ => 0)))] H := hP
  replace hD : va_D A [(a_t, .inr (7, [.ref a_n6, w_t_boards, w_t_way, w_t_beforeRain, w_t_hour, w_t_rainBefore, w_t_next])), (a_n6, .inl (cyI, 3, .inl (fun _ => 0)))] := hD
  refine lv_aload_n hx hb dX8_init_11 rfl (lv_at hl 0 rfl) ?_
  refine lv_iconst (v := 3) hx hb dX8_init_12 (by decide) ?_
  refine va_newa (atype := .int) (ty := .int) (a0 := (3, .inl (fun _ => 0))) (N' := 3) hx hb (hts _ (List.mem_of_getElem? (i := 4) rfl)) rfl hK hP hD hS hA (fun c => va_zero c) (by decide) (by decide) (Nat.le_of_ble_eq_true rfl) (Nat.le_of_ble_eq_true rfl) (Nat.le_of_ble_eq_true rfl) dX8_init_13 (fun a_n13 cA H hK1 hP hD hS => ?_)
  have eC : cyI = cA := (k_cls (fun C h => by cases h) hK1 (i := 0) (j := 3) rfl rfl).symm
  subst eC
  clear hK1
  replace hP : va_P D vwCl [(a_t, .inr (7, [.ref a_n6, w_t_boards, w_t_way, w_t_beforeRain, w_t_hour, w_t_rainBefore, w_t_next])), (a_n6, .inl (cyI, 3, .inl (fun _ => 0))), (a_n13, .inl (cyI, 3, .inl (fun _ => 0)))] H := hP
  replace hD : va_D A [(a_t, .inr (7, [.ref a_n6, w_t_boards, w_t_way, w_t_beforeRain, w_t_hour, w_t_rainBefore, w_t_next])), (a_n6, .inl (cyI, 3, .inl (fun _ => 0))), (a_n13, .inl (cyI, 3, .inl (fun _ => 0)))] := hD
  refine va_putF (D := D) (ci := 7) (v := .ref a_n13) (ty := .array .int) (C := RX8) (T := TX8) (N := 7) hx hb hts inX8_init_X8 tyX8 tyX8_ok nmX8 hown hK hP hD hS 0 rfl rfl 1 (by decide) (hts _ (List.mem_of_getElem? (i := 6) rfl)) (fun _ h9 => h9) rfl hin rfl (tyX8_ok 1 (by decide)) rfl rfl (Nat.le_of_ble_eq_true rfl) dX8_init_15 (fun H locs hP hD hS => ?_)
  replace hP : va_P D vwCl [(a_t, .inr (7, [.ref a_n6, .ref a_n13, w_t_way, w_t_beforeRain, w_t_hour, w_t_rainBefore, w_t_next])), (a_n6, .inl (cyI, 3, .inl (fun _ => 0))), (a_n13, .inl (cyI, 3, .inl (fun _ => 0)))] H := hP
  replace hD : va_D A [(a_t, .inr (7, [.ref a_n6, .ref a_n13, w_t_way, w_t_beforeRain, w_t_hour, w_t_rainBefore, w_t_next])), (a_n6, .inl (cyI, 3, .inl (fun _ => 0))), (a_n13, .inl (cyI, 3, .inl (fun _ => 0)))] := hD
  refine lv_aload_n hx hb dX8_init_18 rfl (lv_at hl 0 rfl) ?_
  refine lv_iconst (v := 3) hx hb dX8_init_19 (by decide) ?_
  refine va_newa (atype := .int) (ty := .int) (a0 := (3, .inl (fun _ => 0))) (N' := 3) hx hb (hts _ (List.mem_of_getElem? (i := 4) rfl)) rfl hK hP hD hS hA (fun c => va_zero c) (by decide) (by decide) (Nat.le_of_ble_eq_true rfl) (Nat.le_of_ble_eq_true rfl) (Nat.le_of_ble_eq_true rfl) dX8_init_20 (fun a_n20 cA H hK1 hP hD hS => ?_)
  have eC : cyI = cA := (k_cls (fun C h => by cases h) hK1 (i := 0) (j := 3) rfl rfl).symm
  subst eC
  clear hK1
  replace hP : va_P D vwCl [(a_t, .inr (7, [.ref a_n6, .ref a_n13, w_t_way, w_t_beforeRain, w_t_hour, w_t_rainBefore, w_t_next])), (a_n6, .inl (cyI, 3, .inl (fun _ => 0))), (a_n13, .inl (cyI, 3, .inl (fun _ => 0))), (a_n20, .inl (cyI, 3, .inl (fun _ => 0)))] H := hP
  replace hD : va_D A [(a_t, .inr (7, [.ref a_n6, .ref a_n13, w_t_way, w_t_beforeRain, w_t_hour, w_t_rainBefore, w_t_next])), (a_n6, .inl (cyI, 3, .inl (fun _ => 0))), (a_n13, .inl (cyI, 3, .inl (fun _ => 0))), (a_n20, .inl (cyI, 3, .inl (fun _ => 0)))] := hD
  refine va_putF (D := D) (ci := 7) (v := .ref a_n20) (ty := .array .int) (C := RX8) (T := TX8) (N := 7) hx hb hts inX8_init_X8 tyX8 tyX8_ok nmX8 hown hK hP hD hS 0 rfl rfl 2 (by decide) (hts _ (List.mem_of_getElem? (i := 7) rfl)) (fun _ h9 => h9) rfl hin rfl (tyX8_ok 2 (by decide)) rfl rfl (Nat.le_of_ble_eq_true rfl) dX8_init_22 (fun H locs hP hD hS => ?_)
  replace hP : va_P D vwCl [(a_t, .inr (7, [.ref a_n6, .ref a_n13, .ref a_n20, w_t_beforeRain, w_t_hour, w_t_rainBefore, w_t_next])), (a_n6, .inl (cyI, 3, .inl (fun _ => 0))), (a_n13, .inl (cyI, 3, .inl (fun _ => 0))), (a_n20, .inl (cyI, 3, .inl (fun _ => 0)))] H := hP
  replace hD : va_D A [(a_t, .inr (7, [.ref a_n6, .ref a_n13, .ref a_n20, w_t_beforeRain, w_t_hour, w_t_rainBefore, w_t_next])), (a_n6, .inl (cyI, 3, .inl (fun _ => 0))), (a_n13, .inl (cyI, 3, .inl (fun _ => 0))), (a_n20, .inl (cyI, 3, .inl (fun _ => 0)))] := hD
  refine lv_aload_n hx hb dX8_init_25 rfl (lv_at hl 0 rfl) ?_
  refine lv_iconst (v := 3) hx hb dX8_init_26 (by decide) ?_
  refine va_newa (atype := .int) (ty := .int) (a0 := (3, .inl (fun _ => 0))) (N' := 3) hx hb (hts _ (List.mem_of_getElem? (i := 4) rfl)) rfl hK hP hD hS hA (fun c => va_zero c) (by decide) (by decide) (Nat.le_of_ble_eq_true rfl) (Nat.le_of_ble_eq_true rfl) (Nat.le_of_ble_eq_true rfl) dX8_init_27 (fun a_n27 cA H hK1 hP hD hS => ?_)
  have eC : cyI = cA := (k_cls (fun C h => by cases h) hK1 (i := 0) (j := 3) rfl rfl).symm
  subst eC
  clear hK1
  replace hP : va_P D vwCl [(a_t, .inr (7, [.ref a_n6, .ref a_n13, .ref a_n20, w_t_beforeRain, w_t_hour, w_t_rainBefore, w_t_next])), (a_n6, .inl (cyI, 3, .inl (fun _ => 0))), (a_n13, .inl (cyI, 3, .inl (fun _ => 0))), (a_n20, .inl (cyI, 3, .inl (fun _ => 0))), (a_n27, .inl (cyI, 3, .inl (fun _ => 0)))] H := hP
  replace hD : va_D A [(a_t, .inr (7, [.ref a_n6, .ref a_n13, .ref a_n20, w_t_beforeRain, w_t_hour, w_t_rainBefore, w_t_next])), (a_n6, .inl (cyI, 3, .inl (fun _ => 0))), (a_n13, .inl (cyI, 3, .inl (fun _ => 0))), (a_n20, .inl (cyI, 3, .inl (fun _ => 0))), (a_n27, .inl (cyI, 3, .inl (fun _ => 0)))] := hD
  refine va_putF (D := D) (ci := 7) (v := .ref a_n27) (ty := .array .int) (C := RX8) (T := TX8) (N := 7) hx hb hts inX8_init_X8 tyX8 tyX8_ok nmX8 hown hK hP hD hS 0 rfl rfl 3 (by decide) (hts _ (List.mem_of_getElem? (i := 8) rfl)) (fun _ h9 => h9) rfl hin rfl (tyX8_ok 3 (by decide)) rfl rfl (Nat.le_of_ble_eq_true rfl) dX8_init_29 (fun H locs hP hD hS => ?_)
  replace hP : va_P D vwCl [(a_t, .inr (7, [.ref a_n6, .ref a_n13, .ref a_n20, .ref a_n27, w_t_hour, w_t_rainBefore, w_t_next])), (a_n6, .inl (cyI, 3, .inl (fun _ => 0))), (a_n13, .inl (cyI, 3, .inl (fun _ => 0))), (a_n20, .inl (cyI, 3, .inl (fun _ => 0))), (a_n27, .inl (cyI, 3, .inl (fun _ => 0)))] H := hP
  replace hD : va_D A [(a_t, .inr (7, [.ref a_n6, .ref a_n13, .ref a_n20, .ref a_n27, w_t_hour, w_t_rainBefore, w_t_next])), (a_n6, .inl (cyI, 3, .inl (fun _ => 0))), (a_n13, .inl (cyI, 3, .inl (fun _ => 0))), (a_n20, .inl (cyI, 3, .inl (fun _ => 0))), (a_n27, .inl (cyI, 3, .inl (fun _ => 0)))] := hD
  refine lv_aload_n hx hb dX8_init_32 rfl (lv_at hl 0 rfl) ?_
  refine lv_iconst (v := 0) hx hb dX8_init_33 (by decide) ?_
  refine va_put (D := D) (ci := 7) (v := .int 0) (ty := .int) (C := RX8) (T := TX8) (N := 7) hx hb hts inX8_init_X8 tyX8 tyX8_ok nmX8 hown hK hP hD hS 0 rfl rfl 4 (by decide) (hts _ (List.mem_of_getElem? (i := 9) rfl)) (fun _ h9 => h9) rfl (tyX8_ok 4 (by decide)) rfl rfl (Nat.le_of_ble_eq_true rfl) dX8_init_34 (fun H locs hP hD hS => ?_)
  replace hP : va_P D vwCl [(a_t, .inr (7, [.ref a_n6, .ref a_n13, .ref a_n20, .ref a_n27, .int 0, w_t_rainBefore, w_t_next])), (a_n6, .inl (cyI, 3, .inl (fun _ => 0))), (a_n13, .inl (cyI, 3, .inl (fun _ => 0))), (a_n20, .inl (cyI, 3, .inl (fun _ => 0))), (a_n27, .inl (cyI, 3, .inl (fun _ => 0)))] H := hP
  replace hD : va_D A [(a_t, .inr (7, [.ref a_n6, .ref a_n13, .ref a_n20, .ref a_n27, .int 0, w_t_rainBefore, w_t_next])), (a_n6, .inl (cyI, 3, .inl (fun _ => 0))), (a_n13, .inl (cyI, 3, .inl (fun _ => 0))), (a_n20, .inl (cyI, 3, .inl (fun _ => 0))), (a_n27, .inl (cyI, 3, .inl (fun _ => 0)))] := hD
  refine lv_aload_n hx hb dX8_init_37 rfl (lv_at hl 0 rfl) ?_
  refine lv_iconst (v := 0) hx hb dX8_init_38 (by decide) ?_
  refine va_put (D := D) (ci := 7) (v := .int 0) (ty := .int) (C := RX8) (T := TX8) (N := 7) hx hb hts inX8_init_X8 tyX8 tyX8_ok nmX8 hown hK hP hD hS 0 rfl rfl 5 (by decide) (hts _ (List.mem_of_getElem? (i := 10) rfl)) (fun _ h9 => h9) rfl (tyX8_ok 5 (by decide)) rfl rfl (Nat.le_of_ble_eq_true rfl) dX8_init_39 (fun H locs hP hD hS => ?_)
  replace hP : va_P D vwCl [(a_t, .inr (7, [.ref a_n6, .ref a_n13, .ref a_n20, .ref a_n27, .int 0, .int 0, w_t_next])), (a_n6, .inl (cyI, 3, .inl (fun _ => 0))), (a_n13, .inl (cyI, 3, .inl (fun _ => 0))), (a_n20, .inl (cyI, 3, .inl (fun _ => 0))), (a_n27, .inl (cyI, 3, .inl (fun _ => 0)))] H := hP
  replace hD : va_D A [(a_t, .inr (7, [.ref a_n6, .ref a_n13, .ref a_n20, .ref a_n27, .int 0, .int 0, w_t_next])), (a_n6, .inl (cyI, 3, .inl (fun _ => 0))), (a_n13, .inl (cyI, 3, .inl (fun _ => 0))), (a_n20, .inl (cyI, 3, .inl (fun _ => 0))), (a_n27, .inl (cyI, 3, .inl (fun _ => 0)))] := hD
  refine lv_aload_n hx hb dX8_init_42 rfl (lv_at hl 0 rfl) ?_
  refine lv_aload_n hx hb dX8_init_43 rfl (lv_at hl 1 rfl) ?_
  refine va_putF (D := D) (ci := 7) (v := .ref a_p1) (ty := .object "SluiceCards$Water") (C := RX8) (T := TX8) (N := 7) hx hb hts inX8_init_X8 tyX8 tyX8_ok nmX8 hown hK hP hD hS 0 rfl rfl 6 (by decide) (hts _ (List.mem_of_getElem? (i := 11) rfl)) (fun _ h9 => h9) rfl hin rfl (tyX8_ok 6 (by decide)) rfl rfl (Nat.le_of_ble_eq_true rfl) dX8_init_44 (fun H locs hP hD hS => ?_)
  replace hP : va_P D vwCl [(a_t, .inr (7, [.ref a_n6, .ref a_n13, .ref a_n20, .ref a_n27, .int 0, .int 0, .ref a_p1])), (a_n6, .inl (cyI, 3, .inl (fun _ => 0))), (a_n13, .inl (cyI, 3, .inl (fun _ => 0))), (a_n20, .inl (cyI, 3, .inl (fun _ => 0))), (a_n27, .inl (cyI, 3, .inl (fun _ => 0)))] H := hP
  replace hD : va_D A [(a_t, .inr (7, [.ref a_n6, .ref a_n13, .ref a_n20, .ref a_n27, .int 0, .int 0, .ref a_p1])), (a_n6, .inl (cyI, 3, .inl (fun _ => 0))), (a_n13, .inl (cyI, 3, .inl (fun _ => 0))), (a_n20, .inl (cyI, 3, .inl (fun _ => 0))), (a_n27, .inl (cyI, 3, .inl (fun _ => 0)))] := hD
  have hPj := hP.sub (ws' := [(a_t, .inr (7, [.ref a_n6, .ref a_n13, .ref a_n20, .ref a_n27, .int 0, .int 0, .ref a_p1])), (a_n6, .inl (cyI, 3, .inl (fun _ => 0))), (a_n13, .inl (cyI, 3, .inl (fun _ => 0))), (a_n20, .inl (cyI, 3, .inl (fun _ => 0))), (a_n27, .inl (cyI, 3, .inl (fun _ => 0)))]) [0, 1, 2, 3, 4] rfl
  have hDj := hD.sub (ws' := [(a_t, .inr (7, [.ref a_n6, .ref a_n13, .ref a_n20, .ref a_n27, .int 0, .int 0, .ref a_p1])), (a_n6, .inl (cyI, 3, .inl (fun _ => 0))), (a_n13, .inl (cyI, 3, .inl (fun _ => 0))), (a_n20, .inl (cyI, 3, .inl (fun _ => 0))), (a_n27, .inl (cyI, 3, .inl (fun _ => 0)))]) [0, 1, 2, 3, 4] (by decide) rfl
  exact W.vret hx hb hr (fun t ht hW => ⟨⟨(a_n6, a_n13, a_n20, a_n27), rfl, trivial, post_mk ht hPj hDj⟩, hS.F ht⟩) hS.2.2 dX8_init_47 hlocks
