/-! ===== by program: contracts ===== -/
set_option maxHeartbeats 8000000 in
set_option maxRecDepth 100000 in
theorem MX5_init (l : Launch) (D : va_G) (cyI cyZ cyC : ClassId) (ro : va_W) (ce : Nat → CT) (cin : Nat → Prop) (ad : AD) (a_t : Nat) (w_t_level w_t_hour w_t_way w_t_bell : Value) (sz : Nat)  : Met l yX5_init wsX5_init ({ frames := 1, cells := 0, slots := 0, locals := 12 }) (va_Pc [.ref a_t] (PRE D cyI cyZ cyC ro ce cin ad (SX5_init cyI cyZ cyC a_t w_t_level w_t_hour w_t_way w_t_bell) sz)) (va_Qv (fun (_ : Unit) => True) (fun (_ : Unit) (t : State) => POST D (va_A (SX5_init cyI cyZ cyC a_t w_t_level w_t_hour w_t_way w_t_bell) sz) (OX5_init cyI cyZ cyC a_t w_t_level w_t_hour w_t_way w_t_bell   ) t) (va_A (SX5_init cyI cyZ cyC a_t w_t_level w_t_hour w_t_way w_t_bell) sz)) 0 0 (va_A (SX5_init cyI cyZ cyC a_t w_t_level w_t_hour w_t_way w_t_bell) sz) := by
  refine Met.ofW (cc := cX5_init) (maxL := 1) (ret := none) (by decide) rfl ?_
  intro p e s m args below meth c s₁ B hml hv
  obtain ⟨rfl, hsz, hP, hK, hD0, hX⟩ := hv
  have hx := B.exec
  have hb := B.bytes
  have hr := B.returns
  have hts := atoms_spec (ws := wsX5_init) B.pre
  have hown : s.vm.findClass RX5 = some m.cls := findClass_of_methodNamed B.named
  have hlocks := B.notSynchronized
  have hin : meth.name = "<init>" := (name_of_methodNamed B.named B.method).1
  clear B
  subst hsz
  have hD := hD0.self (sz := s.heap.size)
  clear hD0
  generalize hAe : va_A (SX5_init cyI cyZ cyC a_t w_t_level w_t_hour w_t_way w_t_bell) s.heap.size = A at hD hX ⊢
  have hA : ∀ q : Nat, s.heap.size ≤ q → A q := fun q h => by rw [← hAe]; exact Or.inr h
  clear hAe
  obtain ⟨H, hH⟩ : ∃ H, H = s.heap := ⟨_, rfl⟩
  rw [← hH] at hP ⊢
  have hS : va_S A s.heap H [] := by rw [hH]; exact va_S.rf
  clear hH
  replace hP : va_P D vwCl [(a_t, .inr (4, [w_t_level, w_t_hour, w_t_way, w_t_bell]))] H := hP
  replace hD : va_D A [(a_t, .inr (4, [w_t_level, w_t_hour, w_t_way, w_t_bell]))] := hD
  have hl := lv_entry ([.ref a_t]) (n := 1) (Nat.le_of_ble_eq_true rfl)
  rw [lg_entry_eq]
  generalize (lg_sl ([.ref a_t]) ++ List.replicate (1 - (lg_sl ([.ref a_t])).length) Slot.unset).toArray = ls at hl ⊢
  replace hl : lv_has ls 1 [(0, .ref a_t)] := hl
  refine lv_aload_n hx hb dX5_init_0 rfl (lv_at hl 0 rfl) ?_
  refine W.objInit hx hb hown (hts _ (List.mem_of_getElem? (i := 1) rfl)) (hts _ (List.mem_of_getElem? (i := 2) rfl)) (hts _ (List.mem_of_getElem? (i := 3) rfl)) rfl (by rw [hml]; exact hl.1) rfl dX5_init_1 (Nat.le_of_ble_eq_true rfl) (Nat.le_of_ble_eq_true rfl) ?_
  refine W.eq (g2 := F0 m 4 ls []) rfl ?_
  refine lv_aload_n hx hb dX5_init_4 rfl (lv_at hl 0 rfl) ?_
  refine lv_iconst (v := 0) hx hb dX5_init_5 (by decide) ?_
  refine va_put (D := D) (ci := 4) (v := .int 0) (ty := .int) (C := RX5) (T := TX5) (N := 4) hx hb hts inX5_init_X5 tyX5 tyX5_ok nmX5 hown hK hP hD hS 0 rfl rfl 0 (by decide) (hts _ (List.mem_of_getElem? (i := 4) rfl)) (fun _ h9 => h9) rfl (tyX5_ok 0 (by decide)) rfl rfl (Nat.le_of_ble_eq_true rfl) dX5_init_6 (fun H locs hP hD hS => ?_)
  replace hP : va_P D vwCl [(a_t, .inr (4, [.int 0, w_t_hour, w_t_way, w_t_bell]))] H := hP
  replace hD : va_D A [(a_t, .inr (4, [.int 0, w_t_hour, w_t_way, w_t_bell]))] := hD
  refine lv_aload_n hx hb dX5_init_9 rfl (lv_at hl 0 rfl) ?_
  refine lv_iconst (v := 0) hx hb dX5_init_10 (by decide) ?_
  refine va_put (D := D) (ci := 4) (v := .int 0) (ty := .int) (C := RX5) (T := TX5) (N := 4) hx hb hts inX5_init_X5 tyX5 tyX5_ok nmX5 hown hK hP hD hS 0 rfl rfl 1 (by decide) (hts _ (List.mem_of_getElem? (i := 5) rfl)) (fun _ h9 => h9) rfl (tyX5_ok 1 (by decide)) rfl rfl (Nat.le_of_ble_eq_true rfl) dX5_init_11 (fun H locs hP hD hS => ?_)
  replace hP : va_P D vwCl [(a_t, .inr (4, [.int 0, .int 0, w_t_way, w_t_bell]))] H := hP
  replace hD : va_D A [(a_t, .inr (4, [.int 0, .int 0, w_t_way, w_t_bell]))] := hD
  refine lv_aload_n hx hb dX5_init_14 rfl (lv_at hl 0 rfl) ?_
  refine lv_iconst (v := 1) hx hb dX5_init_15 (by decide) ?_
  refine va_put (D := D) (ci := 4) (v := .int 1) (ty := .int) (C := RX5) (T := TX5) (N := 4) hx hb hts inX5_init_X5 tyX5 tyX5_ok nmX5 hown hK hP hD hS 0 rfl rfl 2 (by decide) (hts _ (List.mem_of_getElem? (i := 6) rfl)) (fun _ h9 => h9) rfl (tyX5_ok 2 (by decide)) rfl rfl (Nat.le_of_ble_eq_true rfl) dX5_init_16 (fun H locs hP hD hS => ?_)
  replace hP : va_P D vwCl [(a_t, .inr (4, [.int 0, .int 0, .int 1, w_t_bell]))] H := hP
  replace hD : va_D A [(a_t, .inr (4, [.int 0, .int 0, .int 1, w_t_bell]))] := hD
  refine lv_aload_n hx hb dX5_init_19 rfl (lv_at hl 0 rfl) ?_
  refine lv_iconst (v := 0) hx hb dX5_init_20 (by decide) ?_
  refine va_put (D := D) (ci := 4) (v := .int 0) (ty := .int) (C := RX5) (T := TX5) (N := 4) hx hb hts inX5_init_X5 tyX5 tyX5_ok nmX5 hown hK hP hD hS 0 rfl rfl 3 (by decide) (hts _ (List.mem_of_getElem? (i := 7) rfl)) (fun _ h9 => h9) rfl (tyX5_ok 3 (by decide)) rfl rfl (Nat.le_of_ble_eq_true rfl) dX5_init_21 (fun H locs hP hD hS => ?_)
  replace hP : va_P D vwCl [(a_t, .inr (4, [.int 0, .int 0, .int 1, .int 0]))] H := hP
  replace hD : va_D A [(a_t, .inr (4, [.int 0, .int 0, .int 1, .int 0]))] := hD
  have hPj := hP.sub (ws' := [(a_t, .inr (4, [.int 0, .int 0, .int 1, .int 0]))]) [0] rfl
  have hDj := hD.sub (ws' := [(a_t, .inr (4, [.int 0, .int 0, .int 1, .int 0]))]) [0] (by decide) rfl
  exact W.vret hx hb hr (fun t ht hW => ⟨⟨(), rfl, trivial, post_mk ht hPj hDj⟩, hS.F ht⟩) hS.2.2 dX5_init_24 hlocks
