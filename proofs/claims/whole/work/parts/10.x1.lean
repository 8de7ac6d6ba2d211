set_option maxHeartbeats 4000000 in
set_option maxRecDepth 100000 in
theorem c_X_isOn (l : Launch) (dC : Nat → ClassId) (dI : Nat → Nat → Nat) (h0 a1 a2 sz : Nat) (k1 k2 : ClassId) (f g : Nat → Int32) (ent ret cnt per cng pnd msk sr sav tkn : Int32) (p1 : Int32) :
    Met l yX0_isOn wsX0_isOn ({ frames := 0, cells := 0, slots := 0, locals := 0 }) (va_Pc [.ref h0, .int p1] (rt_pre dC dI (rt_xw h0 a1 a2 k1 k2 f g ent ret cnt per cng pnd msk sr sav tkn) [(k1, .int), (k2, .int)] sz)) (va_Qi (fun (v : Int32) (u : Unit) => (v = 0 ↔ sr &&& p1 = 0)) (rt_post dC dI [(k1, .int), (k2, .int)] (va_A (rt_xw h0 a1 a2 k1 k2 f g ent ret cnt per cng pnd msk sr sav tkn) sz) (fun (u : Unit) => rt_xw h0 a1 a2 k1 k2 f g ent ret cnt per cng pnd msk sr sav tkn)) (va_A (rt_xw h0 a1 a2 k1 k2 f g ent ret cnt per cng pnd msk sr sav tkn) sz)) 0 0 (va_A (rt_xw h0 a1 a2 k1 k2 f g ent ret cnt per cng pnd msk sr sav tkn) sz) := by
  refine Met.ofW (cc := cX0_isOn) (maxL := 2) (ret := (some .boolean)) (by decide) rfl ?_
  intro p e0 s m args below meth c s₁ B hml hv
  obtain ⟨rfl, hsz, hP, hK, hD0⟩ := hv
  have hx := B.exec
  have hb := B.bytes
  have hr := B.returns
  have hts := atoms_spec (ws := wsX0_isOn) B.pre
  have hown : s.vm.findClass RX0 = some m.cls := findClass_of_methodNamed B.named
  have hlocks := B.notSynchronized
  subst hsz
  have hD := hD0.self (sz := s.heap.size)
  generalize hAe : va_A (rt_xw h0 a1 a2 k1 k2 f g ent ret cnt per cng pnd msk sr sav tkn) s.heap.size = A at hD ⊢
  have hA : ∀ q : Nat, s.heap.size ≤ q → A q := fun q h => by rw [← hAe]; exact Or.inr h
  have hS : va_S A s.heap s.heap [] := va_S.rf
  have hP : va_P (dC, dI) vwCl (rt_xw h0 a1 a2 k1 k2 f g ent ret cnt per cng pnd msk sr sav tkn) s.heap := hP
  have hl := lv_entry ([.ref h0, .int p1]) (n := 2) (Nat.le_of_ble_eq_true rfl)
  rw [lg_entry_eq]
  generalize (lg_sl ([.ref h0, .int p1]) ++ List.replicate (2 - (lg_sl ([.ref h0, .int p1])).length) Slot.unset).toArray = ls at hl ⊢
  have hl : lv_has ls 2 [(0, .ref h0), (1, .int p1)] := hl
  refine lv_aload_n hx hb dX0_isOn_0 rfl (lv_at hl 0 rfl) ?_
  refine va_get (D := (dC, dI)) (ci := 0) (v := .int sr) (C := RX0) (T := TX0) (N := 12) hx hb hts (fun _ h => List.mem_cons_of_mem _ (List.mem_append_right _ h)) hown hK hP 0 rfl rfl 9 (by decide) (hts (.fieldLink RX0 42 "RetiredTimer" "sr" "I") (by decide +kernel)) (fun _ h9 => h9) rfl dX0_isOn_1 ?_
  refine lv_iload_n hx hb dX0_isOn_4 rfl (lv_at hl 1 rfl) ?_
  refine lv_iand hx hb dX0_isOn_5 ?_
  refine lv_if_eq (tgt := 13) hx hb dX0_isOn_6 (by decide) (fun c_6 => ?_) (fun c_6 => ?_)
  · refine lv_iconst (v := 0) hx hb dX0_isOn_13 (by decide) ?_
    exact W.zret (v := 0) hx hb hr rfl (fun t ht hW => ⟨⟨0, (), rfl, ⟨fun _ => c_6, fun _ => rfl⟩, by rw [ht]; exact hP, va_K.moved hW.alike hK, hD⟩, hS.F ht⟩) hS.2.2 dX0_isOn_14
  · refine lv_iconst (v := 1) hx hb dX0_isOn_9 (by decide) ?_
    refine lv_goto (tgt := 14) hx hb dX0_isOn_10 (by decide) ?_
    exact W.zret (v := 1) hx hb hr rfl (fun t ht hW => ⟨⟨1, (), rfl, ⟨fun h => absurd h (by decide), fun h => absurd h c_6⟩, by rw [ht]; exact hP, va_K.moved hW.alike hK, hD⟩, hS.F ht⟩) hS.2.2 dX0_isOn_14
set_option maxHeartbeats 4000000 in
set_option maxRecDepth 100000 in
theorem c_X_isInMask (l : Launch) (dC : Nat → ClassId) (dI : Nat → Nat → Nat) (h0 a1 a2 sz : Nat) (k1 k2 : ClassId) (f g : Nat → Int32) (ent ret cnt per cng pnd msk sr sav tkn : Int32) (p1 : Int32) :
    Met l yX0_isInMask wsX0_isInMask ({ frames := 0, cells := 0, slots := 0, locals := 0 }) (va_Pc [.ref h0, .int p1] (rt_pre dC dI (rt_xw h0 a1 a2 k1 k2 f g ent ret cnt per cng pnd msk sr sav tkn) [(k1, .int), (k2, .int)] sz)) (va_Qi (fun (v : Int32) (u : Unit) => (v = 0 ↔ p1 &&& msk = 0)) (rt_post dC dI [(k1, .int), (k2, .int)] (va_A (rt_xw h0 a1 a2 k1 k2 f g ent ret cnt per cng pnd msk sr sav tkn) sz) (fun (u : Unit) => rt_xw h0 a1 a2 k1 k2 f g ent ret cnt per cng pnd msk sr sav tkn)) (va_A (rt_xw h0 a1 a2 k1 k2 f g ent ret cnt per cng pnd msk sr sav tkn) sz)) 0 0 (va_A (rt_xw h0 a1 a2 k1 k2 f g ent ret cnt per cng pnd msk sr sav tkn) sz) := by
  refine Met.ofW (cc := cX0_isInMask) (maxL := 2) (ret := (some .boolean)) (by decide) rfl ?_
  intro p e0 s m args below meth c s₁ B hml hv
  obtain ⟨rfl, hsz, hP, hK, hD0⟩ := hv
  have hx := B.exec
  have hb := B.bytes
  have hr := B.returns
  have hts := atoms_spec (ws := wsX0_isInMask) B.pre
  have hown : s.vm.findClass RX0 = some m.cls := findClass_of_methodNamed B.named
  have hlocks := B.notSynchronized
  subst hsz
  have hD := hD0.self (sz := s.heap.size)
  generalize hAe : va_A (rt_xw h0 a1 a2 k1 k2 f g ent ret cnt per cng pnd msk sr sav tkn) s.heap.size = A at hD ⊢
  have hA : ∀ q : Nat, s.heap.size ≤ q → A q := fun q h => by rw [← hAe]; exact Or.inr h
  have hS : va_S A s.heap s.heap [] := va_S.rf
  have hP : va_P (dC, dI) vwCl (rt_xw h0 a1 a2 k1 k2 f g ent ret cnt per cng pnd msk sr sav tkn) s.heap := hP
  have hl := lv_entry ([.ref h0, .int p1]) (n := 2) (Nat.le_of_ble_eq_true rfl)
  rw [lg_entry_eq]
  generalize (lg_sl ([.ref h0, .int p1]) ++ List.replicate (2 - (lg_sl ([.ref h0, .int p1])).length) Slot.unset).toArray = ls at hl ⊢
  have hl : lv_has ls 2 [(0, .ref h0), (1, .int p1)] := hl
  refine lv_iload_n hx hb dX0_isInMask_0 rfl (lv_at hl 1 rfl) ?_
  refine lv_aload_n hx hb dX0_isInMask_1 rfl (lv_at hl 0 rfl) ?_
  refine va_get (D := (dC, dI)) (ci := 0) (v := .int msk) (C := RX0) (T := TX0) (N := 12) hx hb hts (fun _ h => List.mem_cons_of_mem _ (List.mem_append_right _ h)) hown hK hP 0 rfl rfl 8 (by decide) (hts (.fieldLink RX0 51 "RetiredTimer" "mask" "I") (by decide +kernel)) (fun _ h9 => h9) rfl dX0_isInMask_2 ?_
  refine lv_iand hx hb dX0_isInMask_5 ?_
  refine lv_if_eq (tgt := 13) hx hb dX0_isInMask_6 (by decide) (fun c_6 => ?_) (fun c_6 => ?_)
  · refine lv_iconst (v := 0) hx hb dX0_isInMask_13 (by decide) ?_
    exact W.zret (v := 0) hx hb hr rfl (fun t ht hW => ⟨⟨0, (), rfl, ⟨fun _ => c_6, fun _ => rfl⟩, by rw [ht]; exact hP, va_K.moved hW.alike hK, hD⟩, hS.F ht⟩) hS.2.2 dX0_isInMask_14
  · refine lv_iconst (v := 1) hx hb dX0_isInMask_9 (by decide) ?_
    refine lv_goto (tgt := 14) hx hb dX0_isInMask_10 (by decide) ?_
    exact W.zret (v := 1) hx hb hr rfl (fun t ht hW => ⟨⟨1, (), rfl, ⟨fun h => absurd h (by decide), fun h => absurd h c_6⟩, by rw [ht]; exact hP, va_K.moved hW.alike hK, hD⟩, hS.F ht⟩) hS.2.2 dX0_isInMask_14
set_option maxHeartbeats 4000000 in
set_option maxRecDepth 100000 in
theorem c_X_setAllAsAtFirst (l : Launch) (dC : Nat → ClassId) (dI : Nat → Nat → Nat) (h0 a1 a2 sz : Nat) (k1 k2 : ClassId) (f g : Nat → Int32) (ent ret cnt per cng pnd msk sr sav tkn : Int32) :
    Met l yX0_setAllAsAtFirst wsX0_setAllAsAtFirst ({ frames := 0, cells := 0, slots := 0, locals := 0 }) (va_Pc [.ref h0] (rt_pre dC dI (rt_xw h0 a1 a2 k1 k2 f g ent ret cnt per cng pnd msk sr sav tkn) [(k1, .int), (k2, .int)] sz)) (va_Qv (fun (u : Unit) => True) (rt_post dC dI [(k1, .int), (k2, .int)] (va_A (rt_xw h0 a1 a2 k1 k2 f g ent ret cnt per cng pnd msk sr sav tkn) sz) (fun (u : Unit) => rt_xw h0 a1 a2 k1 k2 f g 0 0 0 0 0 0 0 1 0 0)) (va_A (rt_xw h0 a1 a2 k1 k2 f g ent ret cnt per cng pnd msk sr sav tkn) sz)) 0 0 (va_A (rt_xw h0 a1 a2 k1 k2 f g ent ret cnt per cng pnd msk sr sav tkn) sz) := by
  refine Met.ofW (cc := cX0_setAllAsAtFirst) (maxL := 1) (ret := none) (by decide) rfl ?_
  intro p e0 s m args below meth c s₁ B hml hv
  obtain ⟨rfl, hsz, hP, hK, hD0⟩ := hv
  have hx := B.exec
  have hb := B.bytes
  have hr := B.returns
  have hts := atoms_spec (ws := wsX0_setAllAsAtFirst) B.pre
  have hown : s.vm.findClass RX0 = some m.cls := findClass_of_methodNamed B.named
  have hlocks := B.notSynchronized
  subst hsz
  have hD := hD0.self (sz := s.heap.size)
  generalize hAe : va_A (rt_xw h0 a1 a2 k1 k2 f g ent ret cnt per cng pnd msk sr sav tkn) s.heap.size = A at hD ⊢
  have hA : ∀ q : Nat, s.heap.size ≤ q → A q := fun q h => by rw [← hAe]; exact Or.inr h
  have hS : va_S A s.heap s.heap [] := va_S.rf
  have hP : va_P (dC, dI) vwCl (rt_xw h0 a1 a2 k1 k2 f g ent ret cnt per cng pnd msk sr sav tkn) s.heap := hP
  have hl := lv_entry ([.ref h0]) (n := 1) (Nat.le_of_ble_eq_true rfl)
  rw [lg_entry_eq]
  generalize (lg_sl ([.ref h0]) ++ List.replicate (1 - (lg_sl ([.ref h0])).length) Slot.unset).toArray = ls at hl ⊢
  have hl : lv_has ls 1 [(0, .ref h0)] := hl
  refine lv_aload_n hx hb dX0_setAllAsAtFirst_0 rfl (lv_at hl 0 rfl) ?_
  refine lv_iconst (v := 0) hx hb dX0_setAllAsAtFirst_1 (by decide) ?_
  refine va_put (D := (dC, dI)) (ci := 0) (v := .int 0) (ty := .int) (C := RX0) (T := TX0) (N := 12) hx hb hts (fun _ h => List.mem_cons_of_mem _ (List.mem_append_right _ h)) tyX0 tyX0_ok nmX0 hown hK hP hD hS 0 rfl rfl 2 (by decide) (hts (.fieldLink RX0 19 "RetiredTimer" "entries" "I") (by decide +kernel)) (fun _ h9 => h9) rfl (by decide +kernel) rfl rfl (Nat.le_of_ble_eq_true rfl) dX0_setAllAsAtFirst_2 (fun H locs hP hD hS => ?_)
  have hP : va_P (dC, dI) vwCl (rt_xw h0 a1 a2 k1 k2 f g 0 ret cnt per cng pnd msk sr sav tkn) H := hP
  have hD : va_D A (rt_xw h0 a1 a2 k1 k2 f g 0 ret cnt per cng pnd msk sr sav tkn) := hD
  refine lv_aload_n hx hb dX0_setAllAsAtFirst_5 rfl (lv_at hl 0 rfl) ?_
  refine lv_iconst (v := 0) hx hb dX0_setAllAsAtFirst_6 (by decide) ?_
  refine va_put (D := (dC, dI)) (ci := 0) (v := .int 0) (ty := .int) (C := RX0) (T := TX0) (N := 12) hx hb hts (fun _ h => List.mem_cons_of_mem _ (List.mem_append_right _ h)) tyX0 tyX0_ok nmX0 hown hK hP hD hS 0 rfl rfl 3 (by decide) (hts (.fieldLink RX0 28 "RetiredTimer" "retired" "I") (by decide +kernel)) (fun _ h9 => h9) rfl (by decide +kernel) rfl rfl (Nat.le_of_ble_eq_true rfl) dX0_setAllAsAtFirst_7 (fun H locs hP hD hS => ?_)
  have hP : va_P (dC, dI) vwCl (rt_xw h0 a1 a2 k1 k2 f g 0 0 cnt per cng pnd msk sr sav tkn) H := hP
  have hD : va_D A (rt_xw h0 a1 a2 k1 k2 f g 0 0 cnt per cng pnd msk sr sav tkn) := hD
  refine lv_aload_n hx hb dX0_setAllAsAtFirst_10 rfl (lv_at hl 0 rfl) ?_
  refine lv_iconst (v := 0) hx hb dX0_setAllAsAtFirst_11 (by decide) ?_
  refine va_put (D := (dC, dI)) (ci := 0) (v := .int 0) (ty := .int) (C := RX0) (T := TX0) (N := 12) hx hb hts (fun _ h => List.mem_cons_of_mem _ (List.mem_append_right _ h)) tyX0 tyX0_ok nmX0 hown hK hP hD hS 0 rfl rfl 4 (by decide) (hts (.fieldLink RX0 65 "RetiredTimer" "count" "I") (by decide +kernel)) (fun _ h9 => h9) rfl (by decide +kernel) rfl rfl (Nat.le_of_ble_eq_true rfl) dX0_setAllAsAtFirst_12 (fun H locs hP hD hS => ?_)
  have hP : va_P (dC, dI) vwCl (rt_xw h0 a1 a2 k1 k2 f g 0 0 0 per cng pnd msk sr sav tkn) H := hP
  have hD : va_D A (rt_xw h0 a1 a2 k1 k2 f g 0 0 0 per cng pnd msk sr sav tkn) := hD
  refine lv_aload_n hx hb dX0_setAllAsAtFirst_15 rfl (lv_at hl 0 rfl) ?_
  refine lv_iconst (v := 0) hx hb dX0_setAllAsAtFirst_16 (by decide) ?_
  refine va_put (D := (dC, dI)) (ci := 0) (v := .int 0) (ty := .int) (C := RX0) (T := TX0) (N := 12) hx hb hts (fun _ h => List.mem_cons_of_mem _ (List.mem_append_right _ h)) tyX0 tyX0_ok nmX0 hown hK hP hD hS 0 rfl rfl 5 (by decide) (hts (.fieldLink RX0 55 "RetiredTimer" "period" "I") (by decide +kernel)) (fun _ h9 => h9) rfl (by decide +kernel) rfl rfl (Nat.le_of_ble_eq_true rfl) dX0_setAllAsAtFirst_17 (fun H locs hP hD hS => ?_)
  have hP : va_P (dC, dI) vwCl (rt_xw h0 a1 a2 k1 k2 f g 0 0 0 0 cng pnd msk sr sav tkn) H := hP
  have hD : va_D A (rt_xw h0 a1 a2 k1 k2 f g 0 0 0 0 cng pnd msk sr sav tkn) := hD
  refine lv_aload_n hx hb dX0_setAllAsAtFirst_20 rfl (lv_at hl 0 rfl) ?_
  refine lv_iconst (v := 0) hx hb dX0_setAllAsAtFirst_21 (by decide) ?_
  refine va_put (D := (dC, dI)) (ci := 0) (v := .int 0) (ty := .boolean) (C := RX0) (T := TX0) (N := 12) hx hb hts (fun _ h => List.mem_cons_of_mem _ (List.mem_append_right _ h)) tyX0 tyX0_ok nmX0 hown hK hP hD hS 0 rfl rfl 6 (by decide) (hts (.fieldLink RX0 58 "RetiredTimer" "counting" "Z") (by decide +kernel)) (fun _ h9 => h9) rfl (by decide +kernel) rfl rfl (Nat.le_of_ble_eq_true rfl) dX0_setAllAsAtFirst_22 (fun H locs hP hD hS => ?_)
  have hP : va_P (dC, dI) vwCl (rt_xw h0 a1 a2 k1 k2 f g 0 0 0 0 0 pnd msk sr sav tkn) H := hP
  have hD : va_D A (rt_xw h0 a1 a2 k1 k2 f g 0 0 0 0 0 pnd msk sr sav tkn) := hD
  refine lv_aload_n hx hb dX0_setAllAsAtFirst_25 rfl (lv_at hl 0 rfl) ?_
  refine lv_iconst (v := 0) hx hb dX0_setAllAsAtFirst_26 (by decide) ?_
  refine va_put (D := (dC, dI)) (ci := 0) (v := .int 0) (ty := .boolean) (C := RX0) (T := TX0) (N := 12) hx hb hts (fun _ h => List.mem_cons_of_mem _ (List.mem_append_right _ h)) tyX0 tyX0_ok nmX0 hown hK hP hD hS 0 rfl rfl 7 (by decide) (hts (.fieldLink RX0 62 "RetiredTimer" "pending" "Z") (by decide +kernel)) (fun _ h9 => h9) rfl (by decide +kernel) rfl rfl (Nat.le_of_ble_eq_true rfl) dX0_setAllAsAtFirst_27 (fun H locs hP hD hS => ?_)
  have hP : va_P (dC, dI) vwCl (rt_xw h0 a1 a2 k1 k2 f g 0 0 0 0 0 0 msk sr sav tkn) H := hP
  have hD : va_D A (rt_xw h0 a1 a2 k1 k2 f g 0 0 0 0 0 0 msk sr sav tkn) := hD
  refine lv_aload_n hx hb dX0_setAllAsAtFirst_30 rfl (lv_at hl 0 rfl) ?_
  refine lv_iconst (v := 0) hx hb dX0_setAllAsAtFirst_31 (by decide) ?_
  refine va_put (D := (dC, dI)) (ci := 0) (v := .int 0) (ty := .int) (C := RX0) (T := TX0) (N := 12) hx hb hts (fun _ h => List.mem_cons_of_mem _ (List.mem_append_right _ h)) tyX0 tyX0_ok nmX0 hown hK hP hD hS 0 rfl rfl 8 (by decide) (hts (.fieldLink RX0 51 "RetiredTimer" "mask" "I") (by decide +kernel)) (fun _ h9 => h9) rfl (by decide +kernel) rfl rfl (Nat.le_of_ble_eq_true rfl) dX0_setAllAsAtFirst_32 (fun H locs hP hD hS => ?_)
  have hP : va_P (dC, dI) vwCl (rt_xw h0 a1 a2 k1 k2 f g 0 0 0 0 0 0 0 sr sav tkn) H := hP
  have hD : va_D A (rt_xw h0 a1 a2 k1 k2 f g 0 0 0 0 0 0 0 sr sav tkn) := hD
  refine lv_aload_n hx hb dX0_setAllAsAtFirst_35 rfl (lv_at hl 0 rfl) ?_
  refine lv_iconst (v := 1) hx hb dX0_setAllAsAtFirst_36 (by decide) ?_
  refine va_put (D := (dC, dI)) (ci := 0) (v := .int 1) (ty := .int) (C := RX0) (T := TX0) (N := 12) hx hb hts (fun _ h => List.mem_cons_of_mem _ (List.mem_append_right _ h)) tyX0 tyX0_ok nmX0 hown hK hP hD hS 0 rfl rfl 9 (by decide) (hts (.fieldLink RX0 42 "RetiredTimer" "sr" "I") (by decide +kernel)) (fun _ h9 => h9) rfl (by decide +kernel) rfl rfl (Nat.le_of_ble_eq_true rfl) dX0_setAllAsAtFirst_37 (fun H locs hP hD hS => ?_)
  have hP : va_P (dC, dI) vwCl (rt_xw h0 a1 a2 k1 k2 f g 0 0 0 0 0 0 0 1 sav tkn) H := hP
  have hD : va_D A (rt_xw h0 a1 a2 k1 k2 f g 0 0 0 0 0 0 0 1 sav tkn) := hD
  refine lv_aload_n hx hb dX0_setAllAsAtFirst_40 rfl (lv_at hl 0 rfl) ?_
  refine lv_iconst (v := 0) hx hb dX0_setAllAsAtFirst_41 (by decide) ?_
  refine va_put (D := (dC, dI)) (ci := 0) (v := .int 0) (ty := .int) (C := RX0) (T := TX0) (N := 12) hx hb hts (fun _ h => List.mem_cons_of_mem _ (List.mem_append_right _ h)) tyX0 tyX0_ok nmX0 hown hK hP hD hS 0 rfl rfl 10 (by decide) (hts (.fieldLink RX0 45 "RetiredTimer" "saved" "I") (by decide +kernel)) (fun _ h9 => h9) rfl (by decide +kernel) rfl rfl (Nat.le_of_ble_eq_true rfl) dX0_setAllAsAtFirst_42 (fun H locs hP hD hS => ?_)
  have hP : va_P (dC, dI) vwCl (rt_xw h0 a1 a2 k1 k2 f g 0 0 0 0 0 0 0 1 0 tkn) H := hP
  have hD : va_D A (rt_xw h0 a1 a2 k1 k2 f g 0 0 0 0 0 0 0 1 0 tkn) := hD
  refine lv_aload_n hx hb dX0_setAllAsAtFirst_45 rfl (lv_at hl 0 rfl) ?_
  refine lv_iconst (v := 0) hx hb dX0_setAllAsAtFirst_46 (by decide) ?_
  refine va_put (D := (dC, dI)) (ci := 0) (v := .int 0) (ty := .int) (C := RX0) (T := TX0) (N := 12) hx hb hts (fun _ h => List.mem_cons_of_mem _ (List.mem_append_right _ h)) tyX0 tyX0_ok nmX0 hown hK hP hD hS 0 rfl rfl 11 (by decide) (hts (.fieldLink RX0 48 "RetiredTimer" "taken" "I") (by decide +kernel)) (fun _ h9 => h9) rfl (by decide +kernel) rfl rfl (Nat.le_of_ble_eq_true rfl) dX0_setAllAsAtFirst_47 (fun H locs hP hD hS => ?_)
  have hP : va_P (dC, dI) vwCl (rt_xw h0 a1 a2 k1 k2 f g 0 0 0 0 0 0 0 1 0 0) H := hP
  have hD : va_D A (rt_xw h0 a1 a2 k1 k2 f g 0 0 0 0 0 0 0 1 0 0) := hD
  exact W.vret hx hb hr (fun t ht hW => ⟨⟨(), rfl, trivial, by rw [ht]; exact hP, va_K.moved hW.alike hK, hD⟩, hS.F ht⟩) hS.2.2 dX0_setAllAsAtFirst_50
set_option maxHeartbeats 4000000 in
set_option maxRecDepth 100000 in
theorem c_X_reset (l : Launch) (dC : Nat → ClassId) (dI : Nat → Nat → Nat) (h0 a1 a2 sz : Nat) (k1 k2 : ClassId) (f g : Nat → Int32) (ent ret cnt per cng pnd msk sr sav tkn : Int32) :
    Met l yX0_reset wsX0_reset ({ frames := 1, cells := 0, slots := 0, locals := 20 }) (va_Pc [.ref h0] (rt_pre dC dI (rt_xw h0 a1 a2 k1 k2 f g ent ret cnt per cng pnd msk sr sav tkn) [(k1, .int), (k2, .int)] sz)) (va_Qv (fun (u : Unit) => True) (rt_post dC dI [(k1, .int), (k2, .int)] (va_A (rt_xw h0 a1 a2 k1 k2 f g ent ret cnt per cng pnd msk sr sav tkn) sz) (fun (u : Unit) => rt_xw h0 a1 a2 k1 k2 f g 0 0 0 0 0 0 0 1 0 0)) (va_A (rt_xw h0 a1 a2 k1 k2 f g ent ret cnt per cng pnd msk sr sav tkn) sz)) 0 0 (va_A (rt_xw h0 a1 a2 k1 k2 f g ent ret cnt per cng pnd msk sr sav tkn) sz) := by
  refine Met.ofW (cc := cX0_reset) (maxL := 1) (ret := none) (by decide) rfl ?_
  intro p e0 s m args below meth c s₁ B hml hv
  obtain ⟨rfl, hsz, hP, hK, hD0⟩ := hv
  have hx := B.exec
  have hb := B.bytes
  have hr := B.returns
  have hts := atoms_spec (ws := wsX0_reset) B.pre
  have hown : s.vm.findClass RX0 = some m.cls := findClass_of_methodNamed B.named
  have hlocks := B.notSynchronized
  subst hsz
  have hD := hD0.self (sz := s.heap.size)
  generalize hAe : va_A (rt_xw h0 a1 a2 k1 k2 f g ent ret cnt per cng pnd msk sr sav tkn) s.heap.size = A at hD ⊢
  have hA : ∀ q : Nat, s.heap.size ≤ q → A q := fun q h => by rw [← hAe]; exact Or.inr h
  have hS : va_S A s.heap s.heap [] := va_S.rf
  have hP : va_P (dC, dI) vwCl (rt_xw h0 a1 a2 k1 k2 f g ent ret cnt per cng pnd msk sr sav tkn) s.heap := hP
  have hl := lv_entry ([.ref h0]) (n := 1) (Nat.le_of_ble_eq_true rfl)
  rw [lg_entry_eq]
  generalize (lg_sl ([.ref h0]) ++ List.replicate (1 - (lg_sl ([.ref h0])).length) Slot.unset).toArray = ls at hl ⊢
  have hl : lv_has ls 1 [(0, .ref h0)] := hl
  refine lv_aload_n hx hb dX0_reset_0 rfl (lv_at hl 0 rfl) ?_
  have hFc := va_free (wc := rt_xw h0 a1 a2 k1 k2 f g ent ret cnt per cng pnd msk sr sav tkn) hD hS hA [0, 1, 2] rfl
  refine va_callv (va_runV (As := []) (rest := []) ⟨hx, hb, hml, hown, hts⟩ (c_X_setAllAsAtFirst l dC dI h0 a1 a2 s.heap.size k1 k2 f g ent ret cnt per cng pnd msk sr sav tkn) (cwV 0 hts gX0_reset_X0_setAllAsAtFirst rfl rfl rfl (by decide +kernel) ⟨Nat.le_of_ble_eq_true rfl, Nat.le_of_ble_eq_true rfl⟩) ⟨fun a U g mk q => by obtain ⟨q0, q1, qP, qK, qD⟩ := q; exact ⟨q0, q1, qP, va_K.moved (u := U) (U := U.calling g mk a) (Vm.Alike.refl U.vm) qK, qD⟩, va_recv hK hP (ci := 0) (q0 := 0) rfl rfl, fun U hU hW => ⟨rfl, by rw [hU], by rw [hU]; exact hP, va_K.moved hW.alike hK, hD.weaken (fun _ _ _ _ => trivial)⟩⟩ rfl rfl hl.1 rfl (lv_room (Nat.le_of_ble_eq_true rfl)) dX0_reset_1 ⟨Nat.zero_le _, Nat.zero_le _⟩) hS (fun q _ h => hFc q h) hFc (fun u t H1 locs ht hvm hw_1 hB hz1 hk1 hS => ?_)
  obtain ⟨hP1, hK1, hD1⟩ := hB
  rw [ht] at hP1
  try dsimp only at hw_1 hP1 hD1
  obtain ⟨hP, hD⟩ := va_join (wr := []) (w1 := rt_xw h0 a1 a2 k1 k2 f g 0 0 0 0 0 0 0 1 0 0) hP hD [0, 1, 2] [] rfl rfl (by decide) (by decide) hk1 hFc hP1 hD1
  generalize H1 = H at hP hS ⊢
  have hP : va_P (dC, dI) vwCl (rt_xw h0 a1 a2 k1 k2 f g 0 0 0 0 0 0 0 1 0 0) H := hP
  have hD : va_D A (rt_xw h0 a1 a2 k1 k2 f g 0 0 0 0 0 0 0 1 0 0) := hD
  exact W.vret hx hb hr (fun t ht hW => ⟨⟨(), rfl, trivial, by rw [ht]; exact hP, va_K.moved hW.alike hK, hD⟩, hS.F ht⟩) hS.2.2 dX0_reset_4
set_option maxHeartbeats 4000000 in
set_option maxRecDepth 100000 in
theorem c_X_back (l : Launch) (dC : Nat → ClassId) (dI : Nat → Nat → Nat) (h0 a1 a2 sz : Nat) (k1 k2 : ClassId) (f g : Nat → Int32) (ent ret cnt per cng pnd msk sr sav tkn : Int32) :
    Met l yX0_back wsX0_back ({ frames := 0, cells := 0, slots := 0, locals := 0 }) (va_Pc [.ref h0] (rt_pre dC dI (rt_xw h0 a1 a2 k1 k2 f g ent ret cnt per cng pnd msk sr sav tkn) [(k1, .int), (k2, .int)] sz)) (va_Qv (fun (u : Unit) => True) (rt_post dC dI [(k1, .int), (k2, .int)] (va_A (rt_xw h0 a1 a2 k1 k2 f g ent ret cnt per cng pnd msk sr sav tkn) sz) (fun (u : Unit) => rt_xw h0 a1 a2 k1 k2 f g ent ret cnt per cng pnd msk sav sav tkn)) (va_A (rt_xw h0 a1 a2 k1 k2 f g ent ret cnt per cng pnd msk sr sav tkn) sz)) 0 0 (va_A (rt_xw h0 a1 a2 k1 k2 f g ent ret cnt per cng pnd msk sr sav tkn) sz) := by
  refine Met.ofW (cc := cX0_back) (maxL := 1) (ret := none) (by decide) rfl ?_
  intro p e0 s m args below meth c s₁ B hml hv
  obtain ⟨rfl, hsz, hP, hK, hD0⟩ := hv
  have hx := B.exec
  have hb := B.bytes
  have hr := B.returns
  have hts := atoms_spec (ws := wsX0_back) B.pre
  have hown : s.vm.findClass RX0 = some m.cls := findClass_of_methodNamed B.named
  have hlocks := B.notSynchronized
  subst hsz
  have hD := hD0.self (sz := s.heap.size)
  generalize hAe : va_A (rt_xw h0 a1 a2 k1 k2 f g ent ret cnt per cng pnd msk sr sav tkn) s.heap.size = A at hD ⊢
  have hA : ∀ q : Nat, s.heap.size ≤ q → A q := fun q h => by rw [← hAe]; exact Or.inr h
  have hS : va_S A s.heap s.heap [] := va_S.rf
  have hP : va_P (dC, dI) vwCl (rt_xw h0 a1 a2 k1 k2 f g ent ret cnt per cng pnd msk sr sav tkn) s.heap := hP
  have hl := lv_entry ([.ref h0]) (n := 1) (Nat.le_of_ble_eq_true rfl)
  rw [lg_entry_eq]
  generalize (lg_sl ([.ref h0]) ++ List.replicate (1 - (lg_sl ([.ref h0])).length) Slot.unset).toArray = ls at hl ⊢
  have hl : lv_has ls 1 [(0, .ref h0)] := hl
  refine lv_aload_n hx hb dX0_back_0 rfl (lv_at hl 0 rfl) ?_
  refine lv_aload_n hx hb dX0_back_1 rfl (lv_at hl 0 rfl) ?_
  refine va_get (D := (dC, dI)) (ci := 0) (v := .int sav) (C := RX0) (T := TX0) (N := 12) hx hb hts (fun _ h => List.mem_cons_of_mem _ (List.mem_append_right _ h)) hown hK hP 0 rfl rfl 10 (by decide) (hts (.fieldLink RX0 45 "RetiredTimer" "saved" "I") (by decide +kernel)) (fun _ h9 => h9) rfl dX0_back_2 ?_
  refine va_put (D := (dC, dI)) (ci := 0) (v := .int sav) (ty := .int) (C := RX0) (T := TX0) (N := 12) hx hb hts (fun _ h => List.mem_cons_of_mem _ (List.mem_append_right _ h)) tyX0 tyX0_ok nmX0 hown hK hP hD hS 0 rfl rfl 9 (by decide) (hts (.fieldLink RX0 42 "RetiredTimer" "sr" "I") (by decide +kernel)) (fun _ h9 => h9) rfl (by decide +kernel) rfl rfl (Nat.le_of_ble_eq_true rfl) dX0_back_5 (fun H locs hP hD hS => ?_)
  have hP : va_P (dC, dI) vwCl (rt_xw h0 a1 a2 k1 k2 f g ent ret cnt per cng pnd msk sav sav tkn) H := hP
  have hD : va_D A (rt_xw h0 a1 a2 k1 k2 f g ent ret cnt per cng pnd msk sav sav tkn) := hD
  exact W.vret hx hb hr (fun t ht hW => ⟨⟨(), rfl, trivial, by rw [ht]; exact hP, va_K.moved hW.alike hK, hD⟩, hS.F ht⟩) hS.2.2 dX0_back_8
set_option maxHeartbeats 4000000 in
set_option maxRecDepth 100000 in
theorem c_X_mode (l : Launch) (dC : Nat → ClassId) (dI : Nat → Nat → Nat) (h0 a1 a2 sz : Nat) (k1 k2 : ClassId) (f g : Nat → Int32) (ent ret cnt per cng pnd msk sr sav tkn : Int32) (p1 : Int32) :
    Met l yX0_mode wsX0_mode ({ frames := 0, cells := 0, slots := 0, locals := 0 }) (va_Pc [.ref h0, .int p1] (rt_pre dC dI (rt_xw h0 a1 a2 k1 k2 f g ent ret cnt per cng pnd msk sr sav tkn) [(k1, .int), (k2, .int)] sz)) (va_Qv (fun (u : Unit) => True) (rt_post dC dI [(k1, .int), (k2, .int)] (va_A (rt_xw h0 a1 a2 k1 k2 f g ent ret cnt per cng pnd msk sr sav tkn) sz) (fun (u : Unit) => rt_xw h0 a1 a2 k1 k2 f g ent ret cnt per cng pnd msk (p1 &&& 39) sav tkn)) (va_A (rt_xw h0 a1 a2 k1 k2 f g ent ret cnt per cng pnd msk sr sav tkn) sz)) 0 0 (va_A (rt_xw h0 a1 a2 k1 k2 f g ent ret cnt per cng pnd msk sr sav tkn) sz) := by
  refine Met.ofW (cc := cX0_mode) (maxL := 2) (ret := none) (by decide) rfl ?_
  intro p e0 s m args below meth c s₁ B hml hv
  obtain ⟨rfl, hsz, hP, hK, hD0⟩ := hv
  have hx := B.exec
  have hb := B.bytes
  have hr := B.returns
  have hts := atoms_spec (ws := wsX0_mode) B.pre
  have hown : s.vm.findClass RX0 = some m.cls := findClass_of_methodNamed B.named
  have hlocks := B.notSynchronized
  subst hsz
  have hD := hD0.self (sz := s.heap.size)
  generalize hAe : va_A (rt_xw h0 a1 a2 k1 k2 f g ent ret cnt per cng pnd msk sr sav tkn) s.heap.size = A at hD ⊢
  have hA : ∀ q : Nat, s.heap.size ≤ q → A q := fun q h => by rw [← hAe]; exact Or.inr h
  have hS : va_S A s.heap s.heap [] := va_S.rf
  have hP : va_P (dC, dI) vwCl (rt_xw h0 a1 a2 k1 k2 f g ent ret cnt per cng pnd msk sr sav tkn) s.heap := hP
  have hl := lv_entry ([.ref h0, .int p1]) (n := 2) (Nat.le_of_ble_eq_true rfl)
  rw [lg_entry_eq]
  generalize (lg_sl ([.ref h0, .int p1]) ++ List.replicate (2 - (lg_sl ([.ref h0, .int p1])).length) Slot.unset).toArray = ls at hl ⊢
  have hl : lv_has ls 2 [(0, .ref h0), (1, .int p1)] := hl
  refine lv_aload_n hx hb dX0_mode_0 rfl (lv_at hl 0 rfl) ?_
  refine lv_iload_n hx hb dX0_mode_1 rfl (lv_at hl 1 rfl) ?_
  refine lv_bipush (v := 39) hx hb dX0_mode_2 (by decide) ?_
  refine lv_iand hx hb dX0_mode_4 ?_
  refine va_put (D := (dC, dI)) (ci := 0) (v := .int (p1 &&& 39)) (ty := .int) (C := RX0) (T := TX0) (N := 12) hx hb hts (fun _ h => List.mem_cons_of_mem _ (List.mem_append_right _ h)) tyX0 tyX0_ok nmX0 hown hK hP hD hS 0 rfl rfl 9 (by decide) (hts (.fieldLink RX0 42 "RetiredTimer" "sr" "I") (by decide +kernel)) (fun _ h9 => h9) rfl (by decide +kernel) rfl rfl (Nat.le_of_ble_eq_true rfl) dX0_mode_5 (fun H locs hP hD hS => ?_)
  have hP : va_P (dC, dI) vwCl (rt_xw h0 a1 a2 k1 k2 f g ent ret cnt per cng pnd msk (p1 &&& 39) sav tkn) H := hP
  have hD : va_D A (rt_xw h0 a1 a2 k1 k2 f g ent ret cnt per cng pnd msk (p1 &&& 39) sav tkn) := hD
  exact W.vret hx hb hr (fun t ht hW => ⟨⟨(), rfl, trivial, by rw [ht]; exact hP, va_K.moved hW.alike hK, hD⟩, hS.F ht⟩) hS.2.2 dX0_mode_8
set_option maxHeartbeats 4000000 in
set_option maxRecDepth 100000 in
theorem c_X_mask (l : Launch) (dC : Nat → ClassId) (dI : Nat → Nat → Nat) (h0 a1 a2 sz : Nat) (k1 k2 : ClassId) (f g : Nat → Int32) (ent ret cnt per cng pnd msk sr sav tkn : Int32) (p1 : Int32) :
    Met l yX0_mask wsX0_mask ({ frames := 0, cells := 0, slots := 0, locals := 0 }) (va_Pc [.ref h0, .int p1] (rt_pre dC dI (rt_xw h0 a1 a2 k1 k2 f g ent ret cnt per cng pnd msk sr sav tkn) [(k1, .int), (k2, .int)] sz)) (va_Qv (fun (u : Unit) => True) (rt_post dC dI [(k1, .int), (k2, .int)] (va_A (rt_xw h0 a1 a2 k1 k2 f g ent ret cnt per cng pnd msk sr sav tkn) sz) (fun (u : Unit) => rt_xw h0 a1 a2 k1 k2 f g ent ret cnt per cng pnd p1 sr sav tkn)) (va_A (rt_xw h0 a1 a2 k1 k2 f g ent ret cnt per cng pnd msk sr sav tkn) sz)) 0 0 (va_A (rt_xw h0 a1 a2 k1 k2 f g ent ret cnt per cng pnd msk sr sav tkn) sz) := by
  refine Met.ofW (cc := cX0_mask) (maxL := 2) (ret := none) (by decide) rfl ?_
  intro p e0 s m args below meth c s₁ B hml hv
  obtain ⟨rfl, hsz, hP, hK, hD0⟩ := hv
  have hx := B.exec
  have hb := B.bytes
  have hr := B.returns
  have hts := atoms_spec (ws := wsX0_mask) B.pre
  have hown : s.vm.findClass RX0 = some m.cls := findClass_of_methodNamed B.named
  have hlocks := B.notSynchronized
  subst hsz
  have hD := hD0.self (sz := s.heap.size)
  generalize hAe : va_A (rt_xw h0 a1 a2 k1 k2 f g ent ret cnt per cng pnd msk sr sav tkn) s.heap.size = A at hD ⊢
  have hA : ∀ q : Nat, s.heap.size ≤ q → A q := fun q h => by rw [← hAe]; exact Or.inr h
  have hS : va_S A s.heap s.heap [] := va_S.rf
  have hP : va_P (dC, dI) vwCl (rt_xw h0 a1 a2 k1 k2 f g ent ret cnt per cng pnd msk sr sav tkn) s.heap := hP
  have hl := lv_entry ([.ref h0, .int p1]) (n := 2) (Nat.le_of_ble_eq_true rfl)
  rw [lg_entry_eq]
  generalize (lg_sl ([.ref h0, .int p1]) ++ List.replicate (2 - (lg_sl ([.ref h0, .int p1])).length) Slot.unset).toArray = ls at hl ⊢
  have hl : lv_has ls 2 [(0, .ref h0), (1, .int p1)] := hl
  refine lv_aload_n hx hb dX0_mask_0 rfl (lv_at hl 0 rfl) ?_
  refine lv_iload_n hx hb dX0_mask_1 rfl (lv_at hl 1 rfl) ?_
  refine va_put (D := (dC, dI)) (ci := 0) (v := .int p1) (ty := .int) (C := RX0) (T := TX0) (N := 12) hx hb hts (fun _ h => List.mem_cons_of_mem _ (List.mem_append_right _ h)) tyX0 tyX0_ok nmX0 hown hK hP hD hS 0 rfl rfl 8 (by decide) (hts (.fieldLink RX0 51 "RetiredTimer" "mask" "I") (by decide +kernel)) (fun _ h9 => h9) rfl (by decide +kernel) rfl rfl (Nat.le_of_ble_eq_true rfl) dX0_mask_2 (fun H locs hP hD hS => ?_)
  have hP : va_P (dC, dI) vwCl (rt_xw h0 a1 a2 k1 k2 f g ent ret cnt per cng pnd p1 sr sav tkn) H := hP
  have hD : va_D A (rt_xw h0 a1 a2 k1 k2 f g ent ret cnt per cng pnd p1 sr sav tkn) := hD
  exact W.vret hx hb hr (fun t ht hW => ⟨⟨(), rfl, trivial, by rw [ht]; exact hP, va_K.moved hW.alike hK, hD⟩, hS.F ht⟩) hS.2.2 dX0_mask_5
set_option maxHeartbeats 4000000 in
set_option maxRecDepth 100000 in
theorem c_X_count (l : Launch) (dC : Nat → ClassId) (dI : Nat → Nat → Nat) (h0 a1 a2 sz : Nat) (k1 k2 : ClassId) (f g : Nat → Int32) (ent ret cnt per cng pnd msk sr sav tkn : Int32) (p1 : Int32) :
    Met l yX0_count wsX0_count ({ frames := 0, cells := 0, slots := 0, locals := 0 }) (va_Pc [.ref h0, .int p1] (rt_pre dC dI (rt_xw h0 a1 a2 k1 k2 f g ent ret cnt per cng pnd msk sr sav tkn) [(k1, .int), (k2, .int)] sz)) (va_Qv (fun (u : Unit) => True) (rt_post dC dI [(k1, .int), (k2, .int)] (va_A (rt_xw h0 a1 a2 k1 k2 f g ent ret cnt per cng pnd msk sr sav tkn) sz) (fun (u : Unit) => rt_xw h0 a1 a2 k1 k2 f g ent ret p1 per cng pnd msk sr sav tkn)) (va_A (rt_xw h0 a1 a2 k1 k2 f g ent ret cnt per cng pnd msk sr sav tkn) sz)) 0 0 (va_A (rt_xw h0 a1 a2 k1 k2 f g ent ret cnt per cng pnd msk sr sav tkn) sz) := by
  refine Met.ofW (cc := cX0_count) (maxL := 2) (ret := none) (by decide) rfl ?_
  intro p e0 s m args below meth c s₁ B hml hv
  obtain ⟨rfl, hsz, hP, hK, hD0⟩ := hv
  have hx := B.exec
  have hb := B.bytes
  have hr := B.returns
  have hts := atoms_spec (ws := wsX0_count) B.pre
  have hown : s.vm.findClass RX0 = some m.cls := findClass_of_methodNamed B.named
  have hlocks := B.notSynchronized
  subst hsz
  have hD := hD0.self (sz := s.heap.size)
  generalize hAe : va_A (rt_xw h0 a1 a2 k1 k2 f g ent ret cnt per cng pnd msk sr sav tkn) s.heap.size = A at hD ⊢
  have hA : ∀ q : Nat, s.heap.size ≤ q → A q := fun q h => by rw [← hAe]; exact Or.inr h
  have hS : va_S A s.heap s.heap [] := va_S.rf
  have hP : va_P (dC, dI) vwCl (rt_xw h0 a1 a2 k1 k2 f g ent ret cnt per cng pnd msk sr sav tkn) s.heap := hP
  have hl := lv_entry ([.ref h0, .int p1]) (n := 2) (Nat.le_of_ble_eq_true rfl)
  rw [lg_entry_eq]
  generalize (lg_sl ([.ref h0, .int p1]) ++ List.replicate (2 - (lg_sl ([.ref h0, .int p1])).length) Slot.unset).toArray = ls at hl ⊢
  have hl : lv_has ls 2 [(0, .ref h0), (1, .int p1)] := hl
  refine lv_aload_n hx hb dX0_count_0 rfl (lv_at hl 0 rfl) ?_
  refine lv_iload_n hx hb dX0_count_1 rfl (lv_at hl 1 rfl) ?_
  refine va_put (D := (dC, dI)) (ci := 0) (v := .int p1) (ty := .int) (C := RX0) (T := TX0) (N := 12) hx hb hts (fun _ h => List.mem_cons_of_mem _ (List.mem_append_right _ h)) tyX0 tyX0_ok nmX0 hown hK hP hD hS 0 rfl rfl 4 (by decide) (hts (.fieldLink RX0 65 "RetiredTimer" "count" "I") (by decide +kernel)) (fun _ h9 => h9) rfl (by decide +kernel) rfl rfl (Nat.le_of_ble_eq_true rfl) dX0_count_2 (fun H locs hP hD hS => ?_)
  have hP : va_P (dC, dI) vwCl (rt_xw h0 a1 a2 k1 k2 f g ent ret p1 per cng pnd msk sr sav tkn) H := hP
  have hD : va_D A (rt_xw h0 a1 a2 k1 k2 f g ent ret p1 per cng pnd msk sr sav tkn) := hD
  exact W.vret hx hb hr (fun t ht hW => ⟨⟨(), rfl, trivial, by rw [ht]; exact hP, va_K.moved hW.alike hK, hD⟩, hS.F ht⟩) hS.2.2 dX0_count_5
set_option maxHeartbeats 4000000 in
set_option maxRecDepth 100000 in
theorem c_X_timer (l : Launch) (dC : Nat → ClassId) (dI : Nat → Nat → Nat) (h0 a1 a2 sz : Nat) (k1 k2 : ClassId) (f g : Nat → Int32) (ent ret cnt per cng pnd msk sr sav tkn : Int32) (p1 : Int32) (p2 : Int32) (p3 : Int32) (hb2 : p2 = 0 ∨ p2 = 1) (hb3 : p3 = 0 ∨ p3 = 1) :
    Met l yX0_timer wsX0_timer ({ frames := 0, cells := 0, slots := 0, locals := 0 }) (va_Pc [.ref h0, .int p1, .int p2, .int p3] (rt_pre dC dI (rt_xw h0 a1 a2 k1 k2 f g ent ret cnt per cng pnd msk sr sav tkn) [(k1, .int), (k2, .int)] sz)) (va_Qv (fun (u : Unit) => True) (rt_post dC dI [(k1, .int), (k2, .int)] (va_A (rt_xw h0 a1 a2 k1 k2 f g ent ret cnt per cng pnd msk sr sav tkn) sz) (fun (u : Unit) => rt_xw h0 a1 a2 k1 k2 f g ent ret cnt (p1 &&& 268435455) p2 p3 msk sr sav tkn)) (va_A (rt_xw h0 a1 a2 k1 k2 f g ent ret cnt per cng pnd msk sr sav tkn) sz)) 0 0 (va_A (rt_xw h0 a1 a2 k1 k2 f g ent ret cnt per cng pnd msk sr sav tkn) sz) := by
  refine Met.ofW (cc := cX0_timer) (maxL := 4) (ret := none) (by decide) rfl ?_
  intro p e0 s m args below meth c s₁ B hml hv
  obtain ⟨rfl, hsz, hP, hK, hD0⟩ := hv
  have hx := B.exec
  have hb := B.bytes
  have hr := B.returns
  have hts := atoms_spec (ws := wsX0_timer) B.pre
  have hown : s.vm.findClass RX0 = some m.cls := findClass_of_methodNamed B.named
  have hlocks := B.notSynchronized
  subst hsz
  have hD := hD0.self (sz := s.heap.size)
  generalize hAe : va_A (rt_xw h0 a1 a2 k1 k2 f g ent ret cnt per cng pnd msk sr sav tkn) s.heap.size = A at hD ⊢
  have hA : ∀ q : Nat, s.heap.size ≤ q → A q := fun q h => by rw [← hAe]; exact Or.inr h
  have hS : va_S A s.heap s.heap [] := va_S.rf
  have hP : va_P (dC, dI) vwCl (rt_xw h0 a1 a2 k1 k2 f g ent ret cnt per cng pnd msk sr sav tkn) s.heap := hP
  have hl := lv_entry ([.ref h0, .int p1, .int p2, .int p3]) (n := 4) (Nat.le_of_ble_eq_true rfl)
  rw [lg_entry_eq]
  generalize (lg_sl ([.ref h0, .int p1, .int p2, .int p3]) ++ List.replicate (4 - (lg_sl ([.ref h0, .int p1, .int p2, .int p3])).length) Slot.unset).toArray = ls at hl ⊢
  have hl : lv_has ls 4 [(0, .ref h0), (1, .int p1), (2, .int p2), (3, .int p3)] := hl
  refine lv_aload_n hx hb dX0_timer_0 rfl (lv_at hl 0 rfl) ?_
  refine lv_iload_n hx hb dX0_timer_1 rfl (lv_at hl 1 rfl) ?_
  refine lv_ldc (v := 268435455) hx hb hown (hts (.constant RX0 54 268435455) (by decide +kernel)) dX0_timer_2 ?_
  refine lv_iand hx hb dX0_timer_4 ?_
  refine va_put (D := (dC, dI)) (ci := 0) (v := .int (p1 &&& 268435455)) (ty := .int) (C := RX0) (T := TX0) (N := 12) hx hb hts (fun _ h => List.mem_cons_of_mem _ (List.mem_append_right _ h)) tyX0 tyX0_ok nmX0 hown hK hP hD hS 0 rfl rfl 5 (by decide) (hts (.fieldLink RX0 55 "RetiredTimer" "period" "I") (by decide +kernel)) (fun _ h9 => h9) rfl (by decide +kernel) rfl rfl (Nat.le_of_ble_eq_true rfl) dX0_timer_5 (fun H locs hP hD hS => ?_)
  have hP : va_P (dC, dI) vwCl (rt_xw h0 a1 a2 k1 k2 f g ent ret cnt (p1 &&& 268435455) cng pnd msk sr sav tkn) H := hP
  have hD : va_D A (rt_xw h0 a1 a2 k1 k2 f g ent ret cnt (p1 &&& 268435455) cng pnd msk sr sav tkn) := hD
  refine lv_aload_n hx hb dX0_timer_8 rfl (lv_at hl 0 rfl) ?_
  refine lv_iload_n hx hb dX0_timer_9 rfl (lv_at hl 2 rfl) ?_
  refine va_put (D := (dC, dI)) (ci := 0) (v := .int p2) (ty := .boolean) (C := RX0) (T := TX0) (N := 12) hx hb hts (fun _ h => List.mem_cons_of_mem _ (List.mem_append_right _ h)) tyX0 tyX0_ok nmX0 hown hK hP hD hS 0 rfl rfl 6 (by decide) (hts (.fieldLink RX0 58 "RetiredTimer" "counting" "Z") (by decide +kernel)) (fun _ h9 => h9) rfl (by decide +kernel) (rt_bool hb2) (rt_boolF hb2) (Nat.le_of_ble_eq_true rfl) dX0_timer_10 (fun H locs hP hD hS => ?_)
  have hP : va_P (dC, dI) vwCl (rt_xw h0 a1 a2 k1 k2 f g ent ret cnt (p1 &&& 268435455) p2 pnd msk sr sav tkn) H := hP
  have hD : va_D A (rt_xw h0 a1 a2 k1 k2 f g ent ret cnt (p1 &&& 268435455) p2 pnd msk sr sav tkn) := hD
  refine lv_aload_n hx hb dX0_timer_13 rfl (lv_at hl 0 rfl) ?_
  refine lv_iload_n hx hb dX0_timer_14 rfl (lv_at hl 3 rfl) ?_
  refine va_put (D := (dC, dI)) (ci := 0) (v := .int p3) (ty := .boolean) (C := RX0) (T := TX0) (N := 12) hx hb hts (fun _ h => List.mem_cons_of_mem _ (List.mem_append_right _ h)) tyX0 tyX0_ok nmX0 hown hK hP hD hS 0 rfl rfl 7 (by decide) (hts (.fieldLink RX0 62 "RetiredTimer" "pending" "Z") (by decide +kernel)) (fun _ h9 => h9) rfl (by decide +kernel) (rt_bool hb3) (rt_boolF hb3) (Nat.le_of_ble_eq_true rfl) dX0_timer_15 (fun H locs hP hD hS => ?_)
  have hP : va_P (dC, dI) vwCl (rt_xw h0 a1 a2 k1 k2 f g ent ret cnt (p1 &&& 268435455) p2 p3 msk sr sav tkn) H := hP
  have hD : va_D A (rt_xw h0 a1 a2 k1 k2 f g ent ret cnt (p1 &&& 268435455) p2 p3 msk sr sav tkn) := hD
  exact W.vret hx hb hr (fun t ht hW => ⟨⟨(), rfl, trivial, by rw [ht]; exact hP, va_K.moved hW.alike hK, hD⟩, hS.F ht⟩) hS.2.2 dX0_timer_18
set_option maxHeartbeats 4000000 in
set_option maxRecDepth 100000 in
theorem c_X_distanceToPeriod (l : Launch) (dC : Nat → ClassId) (dI : Nat → Nat → Nat) (h0 a1 a2 sz : Nat) (k1 k2 : ClassId) (f g : Nat → Int32) (ent ret cnt per cng pnd msk sr sav tkn : Int32) :
    Met l yX0_distanceToPeriod wsX0_distanceToPeriod ({ frames := 0, cells := 0, slots := 0, locals := 0 }) (va_Pc [.ref h0] (rt_pre dC dI (rt_xw h0 a1 a2 k1 k2 f g ent ret cnt per cng pnd msk sr sav tkn) [(k1, .int), (k2, .int)] sz)) (va_Ql (fun (v : Int64) (u : Unit) => v = rt_per per cnt) (rt_post dC dI [(k1, .int), (k2, .int)] (va_A (rt_xw h0 a1 a2 k1 k2 f g ent ret cnt per cng pnd msk sr sav tkn) sz) (fun (u : Unit) => rt_xw h0 a1 a2 k1 k2 f g ent ret cnt per cng pnd msk sr sav tkn)) (va_A (rt_xw h0 a1 a2 k1 k2 f g ent ret cnt per cng pnd msk sr sav tkn) sz)) 0 0 (va_A (rt_xw h0 a1 a2 k1 k2 f g ent ret cnt per cng pnd msk sr sav tkn) sz) := by
  refine Met.ofW (cc := cX0_distanceToPeriod) (maxL := 3) (ret := (some .long)) (by decide) rfl ?_
  intro p e0 s m args below meth c s₁ B hml hv
  obtain ⟨rfl, hsz, hP, hK, hD0⟩ := hv
  have hx := B.exec
  have hb := B.bytes
  have hr := B.returns
  have hts := atoms_spec (ws := wsX0_distanceToPeriod) B.pre
  have hown : s.vm.findClass RX0 = some m.cls := findClass_of_methodNamed B.named
  have hlocks := B.notSynchronized
  subst hsz
  have hD := hD0.self (sz := s.heap.size)
  generalize hAe : va_A (rt_xw h0 a1 a2 k1 k2 f g ent ret cnt per cng pnd msk sr sav tkn) s.heap.size = A at hD ⊢
  have hA : ∀ q : Nat, s.heap.size ≤ q → A q := fun q h => by rw [← hAe]; exact Or.inr h
  have hS : va_S A s.heap s.heap [] := va_S.rf
  have hP : va_P (dC, dI) vwCl (rt_xw h0 a1 a2 k1 k2 f g ent ret cnt per cng pnd msk sr sav tkn) s.heap := hP
  have hl := lv_entry ([.ref h0]) (n := 3) (Nat.le_of_ble_eq_true rfl)
  rw [lg_entry_eq]
  generalize (lg_sl ([.ref h0]) ++ List.replicate (3 - (lg_sl ([.ref h0])).length) Slot.unset).toArray = ls at hl ⊢
  have hl : lv_has ls 3 [(0, .ref h0)] := hl
  refine lv_aload_n hx hb dX0_distanceToPeriod_0 rfl (lv_at hl 0 rfl) ?_
  refine va_get (D := (dC, dI)) (ci := 0) (v := .int per) (C := RX0) (T := TX0) (N := 12) hx hb hts (fun _ h => List.mem_cons_of_mem _ (List.mem_append_right _ h)) hown hK hP 0 rfl rfl 5 (by decide) (hts (.fieldLink RX0 55 "RetiredTimer" "period" "I") (by decide +kernel)) (fun _ h9 => h9) rfl dX0_distanceToPeriod_1 ?_
  refine lv_i2l (v := per.toInt64) hx hb dX0_distanceToPeriod_4 rfl ?_
  refine lv_aload_n hx hb dX0_distanceToPeriod_5 rfl (lv_at hl 0 rfl) ?_
  refine va_get (D := (dC, dI)) (ci := 0) (v := .int cnt) (C := RX0) (T := TX0) (N := 12) hx hb hts (fun _ h => List.mem_cons_of_mem _ (List.mem_append_right _ h)) hown hK hP 0 rfl rfl 4 (by decide) (hts (.fieldLink RX0 65 "RetiredTimer" "count" "I") (by decide +kernel)) (fun _ h9 => h9) rfl dX0_distanceToPeriod_6 ?_
  refine lv_i2l (v := cnt.toInt64) hx hb dX0_distanceToPeriod_9 rfl ?_
  refine lv_lsub hx hb dX0_distanceToPeriod_10 ?_
  refine lv_ldc2 (v := 4294967295) hx hb hown (hts (.constantLong RX0 96 4294967295) (by decide +kernel)) dX0_distanceToPeriod_11 ?_
  refine lv_land hx hb dX0_distanceToPeriod_14 ?_
  refine lv_lstore_n (lv' := [(1, .long ((per.toInt64 - cnt.toInt64) &&& 4294967295)), (0, .ref h0)]) hx hb dX0_distanceToPeriod_15 rfl hl (by decide) rfl (fun ls hl => ?_)
  refine lv_lload_n hx hb dX0_distanceToPeriod_16 rfl (lv_at hl 0 rfl) ?_
  refine lv_lconst (v := 0) hx hb dX0_distanceToPeriod_17 (by decide) ?_
  refine W.lcmp hx hb dX0_distanceToPeriod_18 ?_
  refine lv_if_ne (tgt := 28) hx hb dX0_distanceToPeriod_19 (by decide) (fun c_19 => ?_) (fun c_19 => ?_)
  · refine lv_lload_n hx hb dX0_distanceToPeriod_28 rfl (lv_at hl 0 rfl) ?_
    exact W.lret (v := (per.toInt64 - cnt.toInt64) &&& 4294967295) hx hb hr (fun t ht hW => ⟨⟨(per.toInt64 - cnt.toInt64) &&& 4294967295, (), rfl, by unfold rt_per; rw [if_neg (fun h => c_19 ((lg_cmp_eq _ _).mpr h))], by rw [ht]; exact hP, va_K.moved hW.alike hK, hD⟩, hS.F ht⟩) hS.2.2 dX0_distanceToPeriod_29
  · refine lv_ldc2 (v := 4294967296) hx hb hown (hts (.constantLong RX0 98 4294967296) (by decide +kernel)) dX0_distanceToPeriod_22 ?_
    refine lv_goto (tgt := 29) hx hb dX0_distanceToPeriod_25 (by decide) ?_
    exact W.lret (v := 4294967296) hx hb hr (fun t ht hW => ⟨⟨4294967296, (), rfl, by unfold rt_per; rw [if_pos ((lg_cmp_eq _ _).mp c_19)], by rw [ht]; exact hP, va_K.moved hW.alike hK, hD⟩, hS.F ht⟩) hS.2.2 dX0_distanceToPeriod_29
set_option maxHeartbeats 4000000 in
set_option maxRecDepth 100000 in
theorem c_X_lastEntryCount (l : Launch) (dC : Nat → ClassId) (dI : Nat → Nat → Nat) (h0 a1 a2 sz : Nat) (k1 k2 : ClassId) (f g : Nat → Int32) (ent ret cnt per cng pnd msk sr sav tkn : Int32) (en : Nat) (he : ent = nI en) (h32 : en ≤ 32) :
    Met l yX0_lastEntryCount wsX0_lastEntryCount ({ frames := 0, cells := 0, slots := 0, locals := 0 }) (va_Pc [.ref h0] (rt_pre dC dI (rt_xw h0 a1 a2 k1 k2 f g ent ret cnt per cng pnd msk sr sav tkn) [(k1, .int), (k2, .int)] sz)) (va_Qi (fun (v : Int32) (u : Unit) => v = rt_last f en) (rt_post dC dI [(k1, .int), (k2, .int)] (va_A (rt_xw h0 a1 a2 k1 k2 f g ent ret cnt per cng pnd msk sr sav tkn) sz) (fun (u : Unit) => rt_xw h0 a1 a2 k1 k2 f g ent ret cnt per cng pnd msk sr sav tkn)) (va_A (rt_xw h0 a1 a2 k1 k2 f g ent ret cnt per cng pnd msk sr sav tkn) sz)) 0 0 (va_A (rt_xw h0 a1 a2 k1 k2 f g ent ret cnt per cng pnd msk sr sav tkn) sz) := by
  subst he
  refine Met.ofW (cc := cX0_lastEntryCount) (maxL := 1) (ret := (some .int)) (by decide) rfl ?_
  intro p e0 s m args below meth c s₁ B hml hv
  obtain ⟨rfl, hsz, hP, hK, hD0⟩ := hv
  have hx := B.exec
  have hb := B.bytes
  have hr := B.returns
  have hts := atoms_spec (ws := wsX0_lastEntryCount) B.pre
  have hown : s.vm.findClass RX0 = some m.cls := findClass_of_methodNamed B.named
  have hlocks := B.notSynchronized
  subst hsz
  have hD := hD0.self (sz := s.heap.size)
  generalize hAe : va_A (rt_xw h0 a1 a2 k1 k2 f g (nI en) ret cnt per cng pnd msk sr sav tkn) s.heap.size = A at hD ⊢
  have hA : ∀ q : Nat, s.heap.size ≤ q → A q := fun q h => by rw [← hAe]; exact Or.inr h
  have hS : va_S A s.heap s.heap [] := va_S.rf
  have hP : va_P (dC, dI) vwCl (rt_xw h0 a1 a2 k1 k2 f g (nI en) ret cnt per cng pnd msk sr sav tkn) s.heap := hP
  have hl := lv_entry ([.ref h0]) (n := 1) (Nat.le_of_ble_eq_true rfl)
  rw [lg_entry_eq]
  generalize (lg_sl ([.ref h0]) ++ List.replicate (1 - (lg_sl ([.ref h0])).length) Slot.unset).toArray = ls at hl ⊢
  have hl : lv_has ls 1 [(0, .ref h0)] := hl
  refine lv_aload_n hx hb dX0_lastEntryCount_0 rfl (lv_at hl 0 rfl) ?_
  refine va_get (D := (dC, dI)) (ci := 0) (v := .int (nI en)) (C := RX0) (T := TX0) (N := 12) hx hb hts (fun _ h => List.mem_cons_of_mem _ (List.mem_append_right _ h)) hown hK hP 0 rfl rfl 2 (by decide) (hts (.fieldLink RX0 19 "RetiredTimer" "entries" "I") (by decide +kernel)) (fun _ h9 => h9) rfl dX0_lastEntryCount_1 ?_
  refine lv_if_le (tgt := 30) hx hb dX0_lastEntryCount_4 (by decide) (fun c_4 => ?_) (fun c_4 => ?_)
  · refine lv_iconst (v := -1) hx hb dX0_lastEntryCount_30 (by decide) ?_
    exact W.iret (v := (-1)) hx hb hr (fun t ht hW => ⟨⟨(-1), (), rfl, by unfold rt_last; rw [if_pos (rt_z0 (by omega) c_4)], by rw [ht]; exact hP, va_K.moved hW.alike hK, hD⟩, hS.F ht⟩) hS.2.2 dX0_lastEntryCount_31
  · have hpos : 0 < en := rt_npos (by omega) c_4
    refine lv_aload_n hx hb dX0_lastEntryCount_7 rfl (lv_at hl 0 rfl) ?_
    refine va_get (D := (dC, dI)) (ci := 0) (v := .int (nI en)) (C := RX0) (T := TX0) (N := 12) hx hb hts (fun _ h => List.mem_cons_of_mem _ (List.mem_append_right _ h)) hown hK hP 0 rfl rfl 2 (by decide) (hts (.fieldLink RX0 19 "RetiredTimer" "entries" "I") (by decide +kernel)) (fun _ h9 => h9) rfl dX0_lastEntryCount_8 ?_
    refine lv_bipush (v := 32) hx hb dX0_lastEntryCount_11 (by decide) ?_
    refine lv_icmp_gt (tgt := 30) hx hb dX0_lastEntryCount_13 (by decide) (fun c_13 => absurd c_13 (nI_nlt (b := en) (a := 32) h32 (by decide))) (fun c_13 => ?_)
    refine lv_aload_n hx hb dX0_lastEntryCount_16 rfl (lv_at hl 0 rfl) ?_
    refine va_get (D := (dC, dI)) (ci := 0) (v := .ref a1) (C := RX0) (T := TX0) (N := 12) hx hb hts (fun _ h => List.mem_cons_of_mem _ (List.mem_append_right _ h)) hown hK hP 0 rfl rfl 0 (by decide) (hts (.fieldLink RX0 9 "RetiredTimer" "entryCounts" "[I") (by decide +kernel)) (fun _ h9 => h9) rfl dX0_lastEntryCount_17 ?_
    refine lv_aload_n hx hb dX0_lastEntryCount_20 rfl (lv_at hl 0 rfl) ?_
    refine va_get (D := (dC, dI)) (ci := 0) (v := .int (nI en)) (C := RX0) (T := TX0) (N := 12) hx hb hts (fun _ h => List.mem_cons_of_mem _ (List.mem_append_right _ h)) hown hK hP 0 rfl rfl 2 (by decide) (hts (.fieldLink RX0 19 "RetiredTimer" "entries" "I") (by decide +kernel)) (fun _ h9 => h9) rfl dX0_lastEntryCount_21 ?_
    refine lv_iconst (v := 1) hx hb dX0_lastEntryCount_24 (by decide) ?_
    refine lv_isub hx hb dX0_lastEntryCount_25 ?_
    refine va_iald hx hb hK hP 1 0 rfl rfl (rt_inP hpos (by omega) (by decide)) dX0_lastEntryCount_26 ?_
    rw [show f ((nI en) - 1).toNatClampNeg = f (en - 1) from by rw [rt_pre1 hpos, nI_clamp (by omega)]]
    refine lv_goto (tgt := 31) hx hb dX0_lastEntryCount_27 (by decide) ?_
    exact W.iret (v := f (en - 1)) hx hb hr (fun t ht hW => ⟨⟨f (en - 1), (), rfl, by unfold rt_last; rw [if_neg (by omega)], by rw [ht]; exact hP, va_K.moved hW.alike hK, hD⟩, hS.F ht⟩) hS.2.2 dX0_lastEntryCount_31
