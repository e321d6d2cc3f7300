/-! ===== by hand: cells put back at their places, told place by place ===== -/
theorem va_sets_len : ∀ (is : List Nat) (ws cs : va_W), (va_sets ws is cs).length = ws.length
  | [], ws, cs => by cases cs <;> rfl
  | i :: is, ws, [] => rfl
  | i :: is, ws, c :: cs => by rw [va_sets, va_sets_len is _ cs, List.length_set]
theorem va_sets_no : ∀ (is : List Nat) (ws cs : va_W) (k : Nat), k ∉ is → (va_sets ws is cs)[k]? = ws[k]?
  | [], ws, cs, k, _ => by cases cs <;> rfl
  | i :: is, ws, [], k, _ => rfl
  | i :: is, ws, c :: cs, k, h => by
    rw [va_sets, va_sets_no is _ cs k (fun z => h (List.mem_cons_of_mem _ z)), List.getElem?_set_ne (show i ≠ k from fun e => h (by rw [e]; exact List.mem_cons_self))]
theorem va_sets_at : ∀ (is : List Nat) (ws cs : va_W) (j k : Nat) (c : Nat × va_E), is.Nodup → is[j]? = some k → cs[j]? = some c → k < ws.length → (va_sets ws is cs)[k]? = some c
  | [], ws, cs, j, k, c, _, h, _, _ => by simp at h
  | i :: is, ws, [], j, k, c, _, _, h, _ => by simp at h
  | i :: is, ws, d :: cs, 0, k, c, hn, h1, h2, hk => by
    have e1 : i = k := Option.some.inj h1
    have e2 : d = c := Option.some.inj h2
    subst e1 e2
    rw [va_sets, va_sets_no is _ cs _ (List.nodup_cons.mp hn).1, List.getElem?_set_self hk]
  | i :: is, ws, d :: cs, j + 1, k, c, hn, h1, h2, hk => by
    rw [va_sets]
    exact va_sets_at is _ cs j k c (List.nodup_cons.mp hn).2 h1 h2 (by rw [List.length_set]; exact hk)
theorem va_sets_eq {ws ws' w1 wr : va_W} {is rest : List Nat} {n : Nat} (hn : is.Nodup) (l1 : ws.length = n) (l2 : ws'.length = n) (h1 : is.map (fun i => ws'[i]?) = w1.map some) (h2 : rest.map (fun i => ws'[i]?) = wr.map some) (h3 : rest.map (fun i => ws[i]?) = wr.map some) (hc : ∀ k, k < n → k ∈ is ∨ k ∈ rest) : va_sets ws is w1 = ws' := by
  apply List.ext_getElem?
  intro k
  by_cases hk : k < n
  · by_cases hi : k ∈ is
    · obtain ⟨j, hj⟩ := List.getElem?_of_mem hi
      have e1 : (is.map (fun i => ws'[i]?))[j]? = some (ws'[k]?) := by rw [List.getElem?_map, hj]; rfl
      rw [h1, List.getElem?_map] at e1
      cases hw : w1[j]? with
      | none => rw [hw] at e1; cases e1
      | some c =>
        rw [hw] at e1
        rw [va_sets_at is ws w1 j k c hn hj hw (by omega)]
        exact Option.some.inj e1
    · rw [va_sets_no is ws w1 k hi]
      have hr := (hc k hk).resolve_left hi
      obtain ⟨j, hj⟩ := List.getElem?_of_mem hr
      have e1 : (rest.map (fun i => ws'[i]?))[j]? = some (ws'[k]?) := by rw [List.getElem?_map, hj]; rfl
      have e2 : (rest.map (fun i => ws[i]?))[j]? = some (ws[k]?) := by rw [List.getElem?_map, hj]; rfl
      rw [h2] at e1
      rw [h3] at e2
      exact Option.some.inj (e2.symm.trans e1)
  · rw [List.getElem?_eq_none (by rw [va_sets_len]; omega), List.getElem?_eq_none (by omega)]
