set_option maxHeartbeats 4000000 in
set_option maxRecDepth 100000 in
theorem lp_M_goOn {p : Program} {l : Launch} {e0 : Env} {R : Room} {s : State} {m : MethodId} {args : Array Value} {below : List Frame} {meth : Method} {c : Code} {Q : State → Prop} {dC : Nat → ClassId} {dI : Nat → Nat → Nat} {A : Nat → Prop} {h0 a1 a2 : Nat} {k1 k2 : ClassId} {f g : Nat → Int32} {ret cnt per cng pnd msk sr sav tkn : Int32} {en kn : Nat} (hx : p.tables.exec = Jvm.exec) (hb : c.code = cX1_goOn) (hts : ∀ w ∈ wsX1_goOn, w.before args s = true) (hown : s.vm.findClass RX1 = some m.cls) (hK : va_K (dC, dI) vwCl [(k1, .int), (k2, .int)] s) (h32 : en ≤ 32)
    (kx : ∀ (k : Nat) (H : Heap) (locs : List Loc) (ls : Array Slot), (kn ≤ k ∧ k ≤ en ∧ (∀ j, kn ≤ j → j < k → f j ≤ ret) ∧ (k < en → ¬ f k ≤ ret)) → va_P (dC, dI) vwCl (rt_mw h0 a1 a2 k1 k2 f g (nI en) ret cnt per cng pnd msk sr sav tkn (nI k)) H → va_D A (rt_mw h0 a1 a2 k1 k2 f g (nI en) ret cnt per cng pnd msk sr sav tkn (nI k)) → va_S A s.heap H locs → W p l e0 R s m args below meth c H locs 0 0 Q (F0 m 40 ls [])) :
    ∀ (n i : Nat), i + n = en → kn ≤ i → (∀ j, kn ≤ j → j < i → f j ≤ ret) → ∀ (H : Heap) (locs : List Loc) (ls : Array Slot), va_P (dC, dI) vwCl (rt_mw h0 a1 a2 k1 k2 f g (nI en) ret cnt per cng pnd msk sr sav tkn (nI i)) H → va_D A (rt_mw h0 a1 a2 k1 k2 f g (nI en) ret cnt per cng pnd msk sr sav tkn (nI i)) → va_S A s.heap H locs → lv_has ls 1 [(0, .ref h0)] → W p l e0 R s m args below meth c H locs 0 0 Q (F0 m 0 ls []) := by
  intro n
  induction n with
  | zero =>
    intro i hi hki hall H locs ls hP hD hS hl
    refine lv_aload_n hx hb dX1_goOn_0 rfl (lv_at hl 0 rfl) ?_
    refine va_get (D := (dC, dI)) (ci := 1) (v := .int (nI i)) (C := RX1) (T := TX1) (N := 14) hx hb hts (fun _ h => List.mem_cons_of_mem _ (List.mem_append_right _ h)) hown hK hP 0 rfl rfl 13 (by decide) (hts (.fieldLink RX1 23 "RetiredTimerModel" "come" "I") (by decide +kernel)) (fun _ h9 => h9) rfl dX1_goOn_1 ?_
    refine lv_aload_n hx hb dX1_goOn_4 rfl (lv_at hl 0 rfl) ?_
    refine va_get (D := (dC, dI)) (ci := 1) (v := .int (nI en)) (C := RX1) (T := TX1) (N := 14) hx hb hts (fun _ h => List.mem_cons_of_mem _ (List.mem_append_right _ h)) hown hK hP 0 rfl rfl 12 (by decide) (hts (.fieldLink RX1 26 "RetiredTimerModel" "entries" "I") (by decide +kernel)) (fun _ h9 => h9) rfl dX1_goOn_5 ?_
    refine lv_icmp_ge (tgt := 40) hx hb dX1_goOn_8 (by decide) (fun c_8 => ?_) (fun c_8 => absurd (nI_le (by omega) (by omega)) c_8)
    exact kx i H locs ls ⟨hki, by omega, hall, fun h => by omega⟩ hP hD hS
  | succ n ih =>
    intro i hi hki hall H locs ls hP hD hS hl
    refine lv_aload_n hx hb dX1_goOn_0 rfl (lv_at hl 0 rfl) ?_
    refine va_get (D := (dC, dI)) (ci := 1) (v := .int (nI i)) (C := RX1) (T := TX1) (N := 14) hx hb hts (fun _ h => List.mem_cons_of_mem _ (List.mem_append_right _ h)) hown hK hP 0 rfl rfl 13 (by decide) (hts (.fieldLink RX1 23 "RetiredTimerModel" "come" "I") (by decide +kernel)) (fun _ h9 => h9) rfl dX1_goOn_1 ?_
    refine lv_aload_n hx hb dX1_goOn_4 rfl (lv_at hl 0 rfl) ?_
    refine va_get (D := (dC, dI)) (ci := 1) (v := .int (nI en)) (C := RX1) (T := TX1) (N := 14) hx hb hts (fun _ h => List.mem_cons_of_mem _ (List.mem_append_right _ h)) hown hK hP 0 rfl rfl 12 (by decide) (hts (.fieldLink RX1 26 "RetiredTimerModel" "entries" "I") (by decide +kernel)) (fun _ h9 => h9) rfl dX1_goOn_5 ?_
    refine lv_icmp_ge (tgt := 40) hx hb dX1_goOn_8 (by decide) (fun c_8 => absurd c_8 (nI_ge (by omega) (by omega))) (fun c_8 => ?_)
    refine lv_aload_n hx hb dX1_goOn_11 rfl (lv_at hl 0 rfl) ?_
    refine va_get (D := (dC, dI)) (ci := 1) (v := .ref a1) (C := RX1) (T := TX1) (N := 14) hx hb hts (fun _ h => List.mem_cons_of_mem _ (List.mem_append_right _ h)) hown hK hP 0 rfl rfl 10 (by decide) (hts (.fieldLink RX1 13 "RetiredTimerModel" "counts" "[I") (by decide +kernel)) (fun _ h9 => h9) rfl dX1_goOn_12 ?_
    refine lv_aload_n hx hb dX1_goOn_15 rfl (lv_at hl 0 rfl) ?_
    refine va_get (D := (dC, dI)) (ci := 1) (v := .int (nI i)) (C := RX1) (T := TX1) (N := 14) hx hb hts (fun _ h => List.mem_cons_of_mem _ (List.mem_append_right _ h)) hown hK hP 0 rfl rfl 13 (by decide) (hts (.fieldLink RX1 23 "RetiredTimerModel" "come" "I") (by decide +kernel)) (fun _ h9 => h9) rfl dX1_goOn_16 ?_
    refine va_iald hx hb hK hP 1 0 rfl rfl (vp_in_nI (N := 32) (by omega) (by decide)) dX1_goOn_19 ?_
    rw [show f (nI i).toNatClampNeg = f i from by rw [nI_clamp (by omega)]]
    refine lv_aload_n hx hb dX1_goOn_20 rfl (lv_at hl 0 rfl) ?_
    refine va_get (D := (dC, dI)) (ci := 1) (v := .int ret) (C := RX1) (T := TX1) (N := 14) hx hb hts (fun _ h => List.mem_cons_of_mem _ (List.mem_append_right _ h)) hown hK hP 0 rfl rfl 1 (by decide) (hts (.fieldLink RX1 29 "RetiredTimerModel" "retired" "I") (by decide +kernel)) (fun _ h9 => h9) rfl dX1_goOn_21 ?_
    refine lv_icmp_gt (tgt := 40) hx hb dX1_goOn_24 (by decide) (fun c_24 => ?_) (fun c_24 => ?_)
    · exact kx i H locs ls ⟨hki, by omega, hall, fun _ h => rt_nle2 h c_24⟩ hP hD hS
    · refine lv_aload_n hx hb dX1_goOn_27 rfl (lv_at hl 0 rfl) ?_
      refine lv_dup hx hb dX1_goOn_28 rfl ?_
      refine va_get (D := (dC, dI)) (ci := 1) (v := .int (nI i)) (C := RX1) (T := TX1) (N := 14) hx hb hts (fun _ h => List.mem_cons_of_mem _ (List.mem_append_right _ h)) hown hK hP 0 rfl rfl 13 (by decide) (hts (.fieldLink RX1 23 "RetiredTimerModel" "come" "I") (by decide +kernel)) (fun _ h9 => h9) rfl dX1_goOn_29 ?_
      refine lv_iconst (v := 1) hx hb dX1_goOn_32 (by decide) ?_
      refine lv_iadd hx hb dX1_goOn_33 ?_
      refine va_put (D := (dC, dI)) (ci := 1) (v := .int ((nI i) + 1)) (ty := .int) (C := RX1) (T := TX1) (N := 14) hx hb hts (fun _ h => List.mem_cons_of_mem _ (List.mem_append_right _ h)) tyX1 tyX1_ok nmX1 hown hK hP hD hS 0 rfl rfl 13 (by decide) (hts (.fieldLink RX1 23 "RetiredTimerModel" "come" "I") (by decide +kernel)) (fun _ h9 => h9) rfl (by decide +kernel) rfl rfl (Nat.le_of_ble_eq_true rfl) dX1_goOn_34 (fun H locs hP hD hS => ?_)
      have hP : va_P (dC, dI) vwCl (rt_mw h0 a1 a2 k1 k2 f g (nI en) ret cnt per cng pnd msk sr sav tkn ((nI i) + 1)) H := hP
      have hD : va_D A (rt_mw h0 a1 a2 k1 k2 f g (nI en) ret cnt per cng pnd msk sr sav tkn ((nI i) + 1)) := hD
      refine lv_goto (tgt := 0) hx hb dX1_goOn_37 (by decide) ?_
      rw [nI_1] at hP hD
      exact ih (i + 1) (by omega) (by omega) (fun j a b => by rcases Nat.lt_or_ge j i with q | q; exact hall j a q; rw [show j = i by omega]; exact rt_nlt c_24) H locs ls hP hD hS hl
set_option maxHeartbeats 4000000 in
set_option maxRecDepth 100000 in
theorem c_M_goOn (l : Launch) (dC : Nat → ClassId) (dI : Nat → Nat → Nat) (h0 a1 a2 sz : Nat) (k1 k2 : ClassId) (f g : Nat → Int32) (ent ret cnt per cng pnd msk sr sav tkn com : Int32) (en kn : Nat) (he : ent = nI en) (h32 : en ≤ 32) (hk : com = nI kn) (hke : kn ≤ en) :
    Met l yX1_goOn wsX1_goOn ({ frames := 0, cells := 0, slots := 0, locals := 0 }) (va_Pc [.ref h0] (rt_pre dC dI (rt_mw h0 a1 a2 k1 k2 f g ent ret cnt per cng pnd msk sr sav tkn com) [(k1, .int), (k2, .int)] sz)) (va_Qv (fun (u : Nat) => kn ≤ u ∧ u ≤ en ∧ (∀ j, kn ≤ j → j < u → f j ≤ ret) ∧ (u < en → ¬ f u ≤ ret)) (rt_post dC dI [(k1, .int), (k2, .int)] (va_A (rt_mw h0 a1 a2 k1 k2 f g ent ret cnt per cng pnd msk sr sav tkn com) sz) (fun (u : Nat) => rt_mw h0 a1 a2 k1 k2 f g ent ret cnt per cng pnd msk sr sav tkn (nI u))) (va_A (rt_mw h0 a1 a2 k1 k2 f g ent ret cnt per cng pnd msk sr sav tkn com) sz)) 0 0 (va_A (rt_mw h0 a1 a2 k1 k2 f g ent ret cnt per cng pnd msk sr sav tkn com) sz) := by
  subst he
  subst hk
  refine Met.ofW (cc := cX1_goOn) (maxL := 1) (ret := none) (by decide) rfl ?_
  intro p e0 s m args below meth c s₁ B hml hv
  obtain ⟨rfl, hsz, hP, hK, hD0⟩ := hv
  have hx := B.exec
  have hb := B.bytes
  have hr := B.returns
  have hts := atoms_spec (ws := wsX1_goOn) B.pre
  have hown : s.vm.findClass RX1 = some m.cls := findClass_of_methodNamed B.named
  have hlocks := B.notSynchronized
  subst hsz
  have hD := hD0.self (sz := s.heap.size)
  generalize hAe : va_A (rt_mw h0 a1 a2 k1 k2 f g (nI en) ret cnt per cng pnd msk sr sav tkn (nI kn)) s.heap.size = A at hD ⊢
  have hA : ∀ q : Nat, s.heap.size ≤ q → A q := fun q h => by rw [← hAe]; exact Or.inr h
  have hS : va_S A s.heap s.heap [] := va_S.rf
  have hP : va_P (dC, dI) vwCl (rt_mw h0 a1 a2 k1 k2 f g (nI en) ret cnt per cng pnd msk sr sav tkn (nI kn)) s.heap := hP
  have hl := lv_entry ([.ref h0]) (n := 1) (Nat.le_of_ble_eq_true rfl)
  rw [lg_entry_eq]
  generalize (lg_sl ([.ref h0]) ++ List.replicate (1 - (lg_sl ([.ref h0])).length) Slot.unset).toArray = ls at hl ⊢
  have hl : lv_has ls 1 [(0, .ref h0)] := hl
  refine lp_M_goOn (f := f) (ret := ret) (en := en) (kn := kn) hx hb hts hown hK h32 (fun k H locs ls hw hP hD hS => ?_) (en - kn) kn (by omega) (Nat.le_refl _) (fun j a b => by omega) _ _ ls hP hD hS hl
  exact W.vret hx hb hr (fun t ht hW => ⟨⟨(k), rfl, hw, by rw [ht]; exact hP, va_K.moved hW.alike hK, hD⟩, hS.F ht⟩) hS.2.2 dX1_goOn_40
set_option maxHeartbeats 4000000 in
set_option maxRecDepth 100000 in
theorem c_M_linesNow (l : Launch) (dC : Nat → ClassId) (dI : Nat → Nat → Nat) (h0 a1 a2 sz : Nat) (k1 k2 : ClassId) (f g : Nat → Int32) (ent ret cnt per cng pnd msk sr sav tkn com : Int32) (kn : Nat) (hk : com = nI kn) (hk32 : kn ≤ 32) :
    Met l yX1_linesNow wsX1_linesNow ({ frames := 0, cells := 0, slots := 0, locals := 0 }) (va_Pc [.ref h0] (rt_pre dC dI (rt_mw h0 a1 a2 k1 k2 f g ent ret cnt per cng pnd msk sr sav tkn com) [(k1, .int), (k2, .int)] sz)) (va_Qi (fun (v : Int32) (u : Unit) => v = rt_now g kn) (rt_post dC dI [(k1, .int), (k2, .int)] (va_A (rt_mw h0 a1 a2 k1 k2 f g ent ret cnt per cng pnd msk sr sav tkn com) sz) (fun (u : Unit) => rt_mw h0 a1 a2 k1 k2 f g ent ret cnt per cng pnd msk sr sav tkn com)) (va_A (rt_mw h0 a1 a2 k1 k2 f g ent ret cnt per cng pnd msk sr sav tkn com) sz)) 0 0 (va_A (rt_mw h0 a1 a2 k1 k2 f g ent ret cnt per cng pnd msk sr sav tkn com) sz) := by
  subst hk
  refine Met.ofW (cc := cX1_linesNow) (maxL := 1) (ret := (some .int)) (by decide) rfl ?_
  intro p e0 s m args below meth c s₁ B hml hv
  obtain ⟨rfl, hsz, hP, hK, hD0⟩ := hv
  have hx := B.exec
  have hb := B.bytes
  have hr := B.returns
  have hts := atoms_spec (ws := wsX1_linesNow) B.pre
  have hown : s.vm.findClass RX1 = some m.cls := findClass_of_methodNamed B.named
  have hlocks := B.notSynchronized
  subst hsz
  have hD := hD0.self (sz := s.heap.size)
  generalize hAe : va_A (rt_mw h0 a1 a2 k1 k2 f g ent ret cnt per cng pnd msk sr sav tkn (nI kn)) s.heap.size = A at hD ⊢
  have hA : ∀ q : Nat, s.heap.size ≤ q → A q := fun q h => by rw [← hAe]; exact Or.inr h
  have hS : va_S A s.heap s.heap [] := va_S.rf
  have hP : va_P (dC, dI) vwCl (rt_mw h0 a1 a2 k1 k2 f g ent ret cnt per cng pnd msk sr sav tkn (nI kn)) s.heap := hP
  have hl := lv_entry ([.ref h0]) (n := 1) (Nat.le_of_ble_eq_true rfl)
  rw [lg_entry_eq]
  generalize (lg_sl ([.ref h0]) ++ List.replicate (1 - (lg_sl ([.ref h0])).length) Slot.unset).toArray = ls at hl ⊢
  have hl : lv_has ls 1 [(0, .ref h0)] := hl
  refine lv_aload_n hx hb dX1_linesNow_0 rfl (lv_at hl 0 rfl) ?_
  refine va_get (D := (dC, dI)) (ci := 1) (v := .int (nI kn)) (C := RX1) (T := TX1) (N := 14) hx hb hts (fun _ h => List.mem_cons_of_mem _ (List.mem_append_right _ h)) hown hK hP 0 rfl rfl 13 (by decide) (hts (.fieldLink RX1 23 "RetiredTimerModel" "come" "I") (by decide +kernel)) (fun _ h9 => h9) rfl dX1_linesNow_1 ?_
  refine lv_if_le (tgt := 21) hx hb dX1_linesNow_4 (by decide) (fun c_4 => ?_) (fun c_4 => ?_)
  · refine lv_iconst (v := 0) hx hb dX1_linesNow_21 (by decide) ?_
    exact W.iret (v := 0) hx hb hr (fun t ht hW => ⟨⟨0, (), rfl, by unfold rt_now; rw [if_pos (rt_z0 (by omega) c_4)], by rw [ht]; exact hP, va_K.moved hW.alike hK, hD⟩, hS.F ht⟩) hS.2.2 dX1_linesNow_22
  · have hpos : 0 < kn := rt_npos (by omega) c_4
    refine lv_aload_n hx hb dX1_linesNow_7 rfl (lv_at hl 0 rfl) ?_
    refine va_get (D := (dC, dI)) (ci := 1) (v := .ref a2) (C := RX1) (T := TX1) (N := 14) hx hb hts (fun _ h => List.mem_cons_of_mem _ (List.mem_append_right _ h)) hown hK hP 0 rfl rfl 11 (by decide) (hts (.fieldLink RX1 17 "RetiredTimerModel" "values" "[I") (by decide +kernel)) (fun _ h9 => h9) rfl dX1_linesNow_8 ?_
    refine lv_aload_n hx hb dX1_linesNow_11 rfl (lv_at hl 0 rfl) ?_
    refine va_get (D := (dC, dI)) (ci := 1) (v := .int (nI kn)) (C := RX1) (T := TX1) (N := 14) hx hb hts (fun _ h => List.mem_cons_of_mem _ (List.mem_append_right _ h)) hown hK hP 0 rfl rfl 13 (by decide) (hts (.fieldLink RX1 23 "RetiredTimerModel" "come" "I") (by decide +kernel)) (fun _ h9 => h9) rfl dX1_linesNow_12 ?_
    refine lv_iconst (v := 1) hx hb dX1_linesNow_15 (by decide) ?_
    refine lv_isub hx hb dX1_linesNow_16 ?_
    refine va_iald hx hb hK hP 2 1 rfl rfl (rt_inP hpos (by omega) (by decide)) dX1_linesNow_17 ?_
    rw [show g ((nI kn) - 1).toNatClampNeg = g (kn - 1) from by rw [rt_pre1 hpos, nI_clamp (by omega)]]
    refine lv_goto (tgt := 22) hx hb dX1_linesNow_18 (by decide) ?_
    exact W.iret (v := g (kn - 1)) hx hb hr (fun t ht hW => ⟨⟨g (kn - 1), (), rfl, by unfold rt_now; rw [if_neg (by omega)], by rw [ht]; exact hP, va_K.moved hW.alike hK, hD⟩, hS.F ht⟩) hS.2.2 dX1_linesNow_22
set_option maxHeartbeats 4000000 in
set_option maxRecDepth 100000 in
theorem c_M_due (l : Launch) (dC : Nat → ClassId) (dI : Nat → Nat → Nat) (h0 a1 a2 sz : Nat) (k1 k2 : ClassId) (f g : Nat → Int32) (ent ret cnt per cng pnd msk sr sav tkn com : Int32) (kn : Nat) (hk : com = nI kn) (hk32 : kn ≤ 32) :
    Met l yX1_due wsX1_due ({ frames := 1, cells := 0, slots := 0, locals := 20 }) (va_Pc [.ref h0] (rt_pre dC dI (rt_mw h0 a1 a2 k1 k2 f g ent ret cnt per cng pnd msk sr sav tkn com) [(k1, .int), (k2, .int)] sz)) (va_Qi (fun (v : Int32) (u : Unit) => v = rt_due sr pnd (rt_now g kn) msk) (rt_post dC dI [(k1, .int), (k2, .int)] (va_A (rt_mw h0 a1 a2 k1 k2 f g ent ret cnt per cng pnd msk sr sav tkn com) sz) (fun (u : Unit) => rt_mw h0 a1 a2 k1 k2 f g ent ret cnt per cng pnd msk sr sav tkn com)) (va_A (rt_mw h0 a1 a2 k1 k2 f g ent ret cnt per cng pnd msk sr sav tkn com) sz)) 0 0 (va_A (rt_mw h0 a1 a2 k1 k2 f g ent ret cnt per cng pnd msk sr sav tkn com) sz) := by
  subst hk
  refine Met.ofW (cc := cX1_due) (maxL := 1) (ret := (some .int)) (by decide) rfl ?_
  intro p e0 s m args below meth c s₁ B hml hv
  obtain ⟨rfl, hsz, hP, hK, hD0⟩ := hv
  have hx := B.exec
  have hb := B.bytes
  have hr := B.returns
  have hts := atoms_spec (ws := wsX1_due) B.pre
  have hown : s.vm.findClass RX1 = some m.cls := findClass_of_methodNamed B.named
  have hlocks := B.notSynchronized
  subst hsz
  have hD := hD0.self (sz := s.heap.size)
  generalize hAe : va_A (rt_mw h0 a1 a2 k1 k2 f g ent ret cnt per cng pnd msk sr sav tkn (nI kn)) s.heap.size = A at hD ⊢
  have hA : ∀ q : Nat, s.heap.size ≤ q → A q := fun q h => by rw [← hAe]; exact Or.inr h
  have hS : va_S A s.heap s.heap [] := va_S.rf
  have hP : va_P (dC, dI) vwCl (rt_mw h0 a1 a2 k1 k2 f g ent ret cnt per cng pnd msk sr sav tkn (nI kn)) s.heap := hP
  have hl := lv_entry ([.ref h0]) (n := 1) (Nat.le_of_ble_eq_true rfl)
  rw [lg_entry_eq]
  generalize (lg_sl ([.ref h0]) ++ List.replicate (1 - (lg_sl ([.ref h0])).length) Slot.unset).toArray = ls at hl ⊢
  have hl : lv_has ls 1 [(0, .ref h0)] := hl
  refine lv_aload_n hx hb dX1_due_0 rfl (lv_at hl 0 rfl) ?_
  refine va_get (D := (dC, dI)) (ci := 1) (v := .int sr) (C := RX1) (T := TX1) (N := 14) hx hb hts (fun _ h => List.mem_cons_of_mem _ (List.mem_append_right _ h)) hown hK hP 0 rfl rfl 7 (by decide) (hts (.fieldLink RX1 7 "RetiredTimerModel" "sr" "I") (by decide +kernel)) (fun _ h9 => h9) rfl dX1_due_1 ?_
  refine lv_iconst (v := 2) hx hb dX1_due_4 (by decide) ?_
  refine lv_iand hx hb dX1_due_5 ?_
  refine lv_if_eq (tgt := 18) hx hb dX1_due_6 (by decide) (fun c_6 => ?_) (fun c_6 => ?_)
  · refine lv_aload_n hx hb dX1_due_18 rfl (lv_at hl 0 rfl) ?_
    refine va_get (D := (dC, dI)) (ci := 1) (v := .int sr) (C := RX1) (T := TX1) (N := 14) hx hb hts (fun _ h => List.mem_cons_of_mem _ (List.mem_append_right _ h)) hown hK hP 0 rfl rfl 7 (by decide) (hts (.fieldLink RX1 7 "RetiredTimerModel" "sr" "I") (by decide +kernel)) (fun _ h9 => h9) rfl dX1_due_19 ?_
    refine lv_iconst (v := 4) hx hb dX1_due_22 (by decide) ?_
    refine lv_iand hx hb dX1_due_23 ?_
    refine lv_if_eq (tgt := 44) hx hb dX1_due_24 (by decide) (fun c_24 => ?_) (fun c_24 => ?_)
    · refine lv_iconst (v := 0) hx hb dX1_due_44 (by decide) ?_
      exact W.iret (v := 0) hx hb hr (fun t ht hW => ⟨⟨0, (), rfl, (rt_due0 (Or.inl c_6) (Or.inl c_24)).symm, by rw [ht]; exact hP, va_K.moved hW.alike hK, hD⟩, hS.F ht⟩) hS.2.2 dX1_due_45
    · refine lv_aload_n hx hb dX1_due_27 rfl (lv_at hl 0 rfl) ?_
      have hFc := va_free (wc := rt_mw h0 a1 a2 k1 k2 f g ent ret cnt per cng pnd msk sr sav tkn (nI kn)) hD hS hA [0, 1, 2] rfl
      refine va_calli (va_runV (As := []) (rest := []) ⟨hx, hb, hml, hown, hts⟩ (c_M_linesNow l dC dI h0 a1 a2 s.heap.size k1 k2 f g ent ret cnt per cng pnd msk sr sav tkn (nI kn) kn rfl hk32) (cwV 0 hts gX1_due_X1_linesNow rfl rfl rfl (by decide +kernel) ⟨Nat.le_of_ble_eq_true rfl, Nat.le_of_ble_eq_true rfl⟩) ⟨fun a U g mk q => by obtain ⟨q0, q1, qP, qK, qD⟩ := q; exact ⟨q0, q1, qP, va_K.moved (u := U) (U := U.calling g mk a) (Vm.Alike.refl U.vm) qK, qD⟩, va_recv hK hP (ci := 1) (q0 := 0) rfl rfl, fun U hU hW => ⟨rfl, by rw [hU], by rw [hU]; exact hP, va_K.moved hW.alike hK, hD.weaken (fun _ _ _ _ => trivial)⟩⟩ rfl rfl hl.1 rfl (lv_room (Nat.le_of_ble_eq_true rfl)) dX1_due_28 ⟨Nat.zero_le _, Nat.zero_le _⟩) hS (fun q _ h => hFc q h) hFc (fun r_28 u t H1 locs ht hvm hw_28 hB hz1 hk1 hS => ?_)
      obtain ⟨hP1, hK1, hD1⟩ := hB
      rw [ht] at hP1
      try dsimp only at hw_28 hP1 hD1
      obtain ⟨hP, hD⟩ := va_join (wr := []) (w1 := rt_mw h0 a1 a2 k1 k2 f g ent ret cnt per cng pnd msk sr sav tkn (nI kn)) hP hD [0, 1, 2] [] rfl rfl (by decide) (by decide) hk1 hFc hP1 hD1
      generalize H1 = H at hP hS ⊢
      have hP : va_P (dC, dI) vwCl (rt_mw h0 a1 a2 k1 k2 f g ent ret cnt per cng pnd msk sr sav tkn (nI kn)) H := hP
      have hD : va_D A (rt_mw h0 a1 a2 k1 k2 f g ent ret cnt per cng pnd msk sr sav tkn (nI kn)) := hD
      refine lv_aload_n hx hb dX1_due_31 rfl (lv_at hl 0 rfl) ?_
      refine va_get (D := (dC, dI)) (ci := 1) (v := .int msk) (C := RX1) (T := TX1) (N := 14) hx hb hts (fun _ h => List.mem_cons_of_mem _ (List.mem_append_right _ h)) hown hK hP 0 rfl rfl 6 (by decide) (hts (.fieldLink RX1 40 "RetiredTimerModel" "mask" "I") (by decide +kernel)) (fun _ h9 => h9) rfl dX1_due_32 ?_
      refine lv_iand hx hb dX1_due_35 ?_
      refine lv_if_eq (tgt := 44) hx hb dX1_due_36 (by decide) (fun c_36 => ?_) (fun c_36 => ?_)
      · refine lv_iconst (v := 0) hx hb dX1_due_44 (by decide) ?_
        rw [hw_28] at c_36
        exact W.iret (v := 0) hx hb hr (fun t ht hW => ⟨⟨0, (), rfl, (rt_due0 (Or.inl c_6) (Or.inr c_36)).symm, by rw [ht]; exact hP, va_K.moved hW.alike hK, hD⟩, hS.F ht⟩) hS.2.2 dX1_due_45
      · refine lv_bipush (v := 8) hx hb dX1_due_39 (by decide) ?_
        refine lv_goto (tgt := 45) hx hb dX1_due_41 (by decide) ?_
        rw [hw_28] at c_36
        exact W.iret (v := 8) hx hb hr (fun t ht hW => ⟨⟨8, (), rfl, (rt_due8 (Or.inl c_6) c_24 c_36).symm, by rw [ht]; exact hP, va_K.moved hW.alike hK, hD⟩, hS.F ht⟩) hS.2.2 dX1_due_45
  · refine lv_aload_n hx hb dX1_due_9 rfl (lv_at hl 0 rfl) ?_
    refine va_get (D := (dC, dI)) (ci := 1) (v := .int pnd) (C := RX1) (T := TX1) (N := 14) hx hb hts (fun _ h => List.mem_cons_of_mem _ (List.mem_append_right _ h)) hown hK hP 0 rfl rfl 5 (by decide) (hts (.fieldLink RX1 32 "RetiredTimerModel" "pending" "Z") (by decide +kernel)) (fun _ h9 => h9) rfl dX1_due_10 ?_
    refine lv_if_eq (tgt := 18) hx hb dX1_due_13 (by decide) (fun c_13 => ?_) (fun c_13 => ?_)
    · refine lv_aload_n hx hb dX1_due_18 rfl (lv_at hl 0 rfl) ?_
      refine va_get (D := (dC, dI)) (ci := 1) (v := .int sr) (C := RX1) (T := TX1) (N := 14) hx hb hts (fun _ h => List.mem_cons_of_mem _ (List.mem_append_right _ h)) hown hK hP 0 rfl rfl 7 (by decide) (hts (.fieldLink RX1 7 "RetiredTimerModel" "sr" "I") (by decide +kernel)) (fun _ h9 => h9) rfl dX1_due_19 ?_
      refine lv_iconst (v := 4) hx hb dX1_due_22 (by decide) ?_
      refine lv_iand hx hb dX1_due_23 ?_
      refine lv_if_eq (tgt := 44) hx hb dX1_due_24 (by decide) (fun c_24 => ?_) (fun c_24 => ?_)
      · refine lv_iconst (v := 0) hx hb dX1_due_44 (by decide) ?_
        exact W.iret (v := 0) hx hb hr (fun t ht hW => ⟨⟨0, (), rfl, (rt_due0 (Or.inr c_13) (Or.inl c_24)).symm, by rw [ht]; exact hP, va_K.moved hW.alike hK, hD⟩, hS.F ht⟩) hS.2.2 dX1_due_45
      · refine lv_aload_n hx hb dX1_due_27 rfl (lv_at hl 0 rfl) ?_
        have hFc := va_free (wc := rt_mw h0 a1 a2 k1 k2 f g ent ret cnt per cng pnd msk sr sav tkn (nI kn)) hD hS hA [0, 1, 2] rfl
        refine va_calli (va_runV (As := []) (rest := []) ⟨hx, hb, hml, hown, hts⟩ (c_M_linesNow l dC dI h0 a1 a2 s.heap.size k1 k2 f g ent ret cnt per cng pnd msk sr sav tkn (nI kn) kn rfl hk32) (cwV 0 hts gX1_due_X1_linesNow rfl rfl rfl (by decide +kernel) ⟨Nat.le_of_ble_eq_true rfl, Nat.le_of_ble_eq_true rfl⟩) ⟨fun a U g mk q => by obtain ⟨q0, q1, qP, qK, qD⟩ := q; exact ⟨q0, q1, qP, va_K.moved (u := U) (U := U.calling g mk a) (Vm.Alike.refl U.vm) qK, qD⟩, va_recv hK hP (ci := 1) (q0 := 0) rfl rfl, fun U hU hW => ⟨rfl, by rw [hU], by rw [hU]; exact hP, va_K.moved hW.alike hK, hD.weaken (fun _ _ _ _ => trivial)⟩⟩ rfl rfl hl.1 rfl (lv_room (Nat.le_of_ble_eq_true rfl)) dX1_due_28 ⟨Nat.zero_le _, Nat.zero_le _⟩) hS (fun q _ h => hFc q h) hFc (fun r_28 u t H1 locs ht hvm hw_28 hB hz1 hk1 hS => ?_)
        obtain ⟨hP1, hK1, hD1⟩ := hB
        rw [ht] at hP1
        try dsimp only at hw_28 hP1 hD1
        obtain ⟨hP, hD⟩ := va_join (wr := []) (w1 := rt_mw h0 a1 a2 k1 k2 f g ent ret cnt per cng pnd msk sr sav tkn (nI kn)) hP hD [0, 1, 2] [] rfl rfl (by decide) (by decide) hk1 hFc hP1 hD1
        generalize H1 = H at hP hS ⊢
        have hP : va_P (dC, dI) vwCl (rt_mw h0 a1 a2 k1 k2 f g ent ret cnt per cng pnd msk sr sav tkn (nI kn)) H := hP
        have hD : va_D A (rt_mw h0 a1 a2 k1 k2 f g ent ret cnt per cng pnd msk sr sav tkn (nI kn)) := hD
        refine lv_aload_n hx hb dX1_due_31 rfl (lv_at hl 0 rfl) ?_
        refine va_get (D := (dC, dI)) (ci := 1) (v := .int msk) (C := RX1) (T := TX1) (N := 14) hx hb hts (fun _ h => List.mem_cons_of_mem _ (List.mem_append_right _ h)) hown hK hP 0 rfl rfl 6 (by decide) (hts (.fieldLink RX1 40 "RetiredTimerModel" "mask" "I") (by decide +kernel)) (fun _ h9 => h9) rfl dX1_due_32 ?_
        refine lv_iand hx hb dX1_due_35 ?_
        refine lv_if_eq (tgt := 44) hx hb dX1_due_36 (by decide) (fun c_36 => ?_) (fun c_36 => ?_)
        · refine lv_iconst (v := 0) hx hb dX1_due_44 (by decide) ?_
          rw [hw_28] at c_36
          exact W.iret (v := 0) hx hb hr (fun t ht hW => ⟨⟨0, (), rfl, (rt_due0 (Or.inr c_13) (Or.inr c_36)).symm, by rw [ht]; exact hP, va_K.moved hW.alike hK, hD⟩, hS.F ht⟩) hS.2.2 dX1_due_45
        · refine lv_bipush (v := 8) hx hb dX1_due_39 (by decide) ?_
          refine lv_goto (tgt := 45) hx hb dX1_due_41 (by decide) ?_
          rw [hw_28] at c_36
          exact W.iret (v := 8) hx hb hr (fun t ht hW => ⟨⟨8, (), rfl, (rt_due8 (Or.inr c_13) c_24 c_36).symm, by rw [ht]; exact hP, va_K.moved hW.alike hK, hD⟩, hS.F ht⟩) hS.2.2 dX1_due_45
    · refine lv_iconst (v := 5) hx hb dX1_due_16 (by decide) ?_
      exact W.iret (v := 5) hx hb hr (fun t ht hW => ⟨⟨5, (), rfl, (rt_due5 c_6 c_13).symm, by rw [ht]; exact hP, va_K.moved hW.alike hK, hD⟩, hS.F ht⟩) hS.2.2 dX1_due_17
set_option maxHeartbeats 4000000 in
set_option maxRecDepth 100000 in
theorem c_M_reset (l : Launch) (dC : Nat → ClassId) (dI : Nat → Nat → Nat) (h0 a1 a2 sz : Nat) (k1 k2 : ClassId) (f g : Nat → Int32) (ent ret cnt per cng pnd msk sr sav tkn com : Int32) :
    Met l yX1_reset wsX1_reset ({ frames := 0, cells := 0, slots := 0, locals := 0 }) (va_Pc [.ref h0] (rt_pre dC dI (rt_mw h0 a1 a2 k1 k2 f g ent ret cnt per cng pnd msk sr sav tkn com) [(k1, .int), (k2, .int)] sz)) (va_Qv (fun (u : Unit) => True) (rt_post dC dI [(k1, .int), (k2, .int)] (va_A (rt_mw h0 a1 a2 k1 k2 f g ent ret cnt per cng pnd msk sr sav tkn com) sz) (fun (u : Unit) => rt_mw h0 a1 a2 k1 k2 f g 0 0 0 0 0 0 0 1 0 0 0)) (va_A (rt_mw h0 a1 a2 k1 k2 f g ent ret cnt per cng pnd msk sr sav tkn com) sz)) 0 0 (va_A (rt_mw h0 a1 a2 k1 k2 f g ent ret cnt per cng pnd msk sr sav tkn com) sz) := by
  refine Met.ofW (cc := cX1_reset) (maxL := 1) (ret := none) (by decide) rfl ?_
  intro p e0 s m args below meth c s₁ B hml hv
  obtain ⟨rfl, hsz, hP, hK, hD0⟩ := hv
  have hx := B.exec
  have hb := B.bytes
  have hr := B.returns
  have hts := atoms_spec (ws := wsX1_reset) B.pre
  have hown : s.vm.findClass RX1 = some m.cls := findClass_of_methodNamed B.named
  have hlocks := B.notSynchronized
  subst hsz
  have hD := hD0.self (sz := s.heap.size)
  generalize hAe : va_A (rt_mw h0 a1 a2 k1 k2 f g ent ret cnt per cng pnd msk sr sav tkn com) s.heap.size = A at hD ⊢
  have hA : ∀ q : Nat, s.heap.size ≤ q → A q := fun q h => by rw [← hAe]; exact Or.inr h
  have hS : va_S A s.heap s.heap [] := va_S.rf
  have hP : va_P (dC, dI) vwCl (rt_mw h0 a1 a2 k1 k2 f g ent ret cnt per cng pnd msk sr sav tkn com) s.heap := hP
  have hl := lv_entry ([.ref h0]) (n := 1) (Nat.le_of_ble_eq_true rfl)
  rw [lg_entry_eq]
  generalize (lg_sl ([.ref h0]) ++ List.replicate (1 - (lg_sl ([.ref h0])).length) Slot.unset).toArray = ls at hl ⊢
  have hl : lv_has ls 1 [(0, .ref h0)] := hl
  refine lv_aload_n hx hb dX1_reset_0 rfl (lv_at hl 0 rfl) ?_
  refine lv_iconst (v := 0) hx hb dX1_reset_1 (by decide) ?_
  refine va_put (D := (dC, dI)) (ci := 1) (v := .int 0) (ty := .int) (C := RX1) (T := TX1) (N := 14) hx hb hts (fun _ h => List.mem_cons_of_mem _ (List.mem_append_right _ h)) tyX1 tyX1_ok nmX1 hown hK hP hD hS 0 rfl rfl 0 (by decide) (hts (.fieldLink RX1 20 "RetiredTimerModel" "thrown" "I") (by decide +kernel)) (fun _ h9 => h9) rfl (by decide +kernel) rfl rfl (Nat.le_of_ble_eq_true rfl) dX1_reset_2 (fun H locs hP hD hS => ?_)
  have hP : va_P (dC, dI) vwCl (rt_mw h0 a1 a2 k1 k2 f g ent ret cnt per cng pnd msk sr sav tkn com) H := hP
  have hD : va_D A (rt_mw h0 a1 a2 k1 k2 f g ent ret cnt per cng pnd msk sr sav tkn com) := hD
  refine lv_aload_n hx hb dX1_reset_5 rfl (lv_at hl 0 rfl) ?_
  refine lv_iconst (v := 0) hx hb dX1_reset_6 (by decide) ?_
  refine va_put (D := (dC, dI)) (ci := 1) (v := .int 0) (ty := .int) (C := RX1) (T := TX1) (N := 14) hx hb hts (fun _ h => List.mem_cons_of_mem _ (List.mem_append_right _ h)) tyX1 tyX1_ok nmX1 hown hK hP hD hS 0 rfl rfl 1 (by decide) (hts (.fieldLink RX1 29 "RetiredTimerModel" "retired" "I") (by decide +kernel)) (fun _ h9 => h9) rfl (by decide +kernel) rfl rfl (Nat.le_of_ble_eq_true rfl) dX1_reset_7 (fun H locs hP hD hS => ?_)
  have hP : va_P (dC, dI) vwCl (rt_mw h0 a1 a2 k1 k2 f g ent 0 cnt per cng pnd msk sr sav tkn com) H := hP
  have hD : va_D A (rt_mw h0 a1 a2 k1 k2 f g ent 0 cnt per cng pnd msk sr sav tkn com) := hD
  refine lv_aload_n hx hb dX1_reset_10 rfl (lv_at hl 0 rfl) ?_
  refine lv_iconst (v := 0) hx hb dX1_reset_11 (by decide) ?_
  refine va_put (D := (dC, dI)) (ci := 1) (v := .int 0) (ty := .int) (C := RX1) (T := TX1) (N := 14) hx hb hts (fun _ h => List.mem_cons_of_mem _ (List.mem_append_right _ h)) tyX1 tyX1_ok nmX1 hown hK hP hD hS 0 rfl rfl 2 (by decide) (hts (.fieldLink RX1 49 "RetiredTimerModel" "count" "I") (by decide +kernel)) (fun _ h9 => h9) rfl (by decide +kernel) rfl rfl (Nat.le_of_ble_eq_true rfl) dX1_reset_12 (fun H locs hP hD hS => ?_)
  have hP : va_P (dC, dI) vwCl (rt_mw h0 a1 a2 k1 k2 f g ent 0 0 per cng pnd msk sr sav tkn com) H := hP
  have hD : va_D A (rt_mw h0 a1 a2 k1 k2 f g ent 0 0 per cng pnd msk sr sav tkn com) := hD
  refine lv_aload_n hx hb dX1_reset_15 rfl (lv_at hl 0 rfl) ?_
  refine lv_iconst (v := 0) hx hb dX1_reset_16 (by decide) ?_
  refine va_put (D := (dC, dI)) (ci := 1) (v := .int 0) (ty := .int) (C := RX1) (T := TX1) (N := 14) hx hb hts (fun _ h => List.mem_cons_of_mem _ (List.mem_append_right _ h)) tyX1 tyX1_ok nmX1 hown hK hP hD hS 0 rfl rfl 3 (by decide) (hts (.fieldLink RX1 52 "RetiredTimerModel" "period" "I") (by decide +kernel)) (fun _ h9 => h9) rfl (by decide +kernel) rfl rfl (Nat.le_of_ble_eq_true rfl) dX1_reset_17 (fun H locs hP hD hS => ?_)
  have hP : va_P (dC, dI) vwCl (rt_mw h0 a1 a2 k1 k2 f g ent 0 0 0 cng pnd msk sr sav tkn com) H := hP
  have hD : va_D A (rt_mw h0 a1 a2 k1 k2 f g ent 0 0 0 cng pnd msk sr sav tkn com) := hD
  refine lv_aload_n hx hb dX1_reset_20 rfl (lv_at hl 0 rfl) ?_
  refine lv_iconst (v := 0) hx hb dX1_reset_21 (by decide) ?_
  refine va_put (D := (dC, dI)) (ci := 1) (v := .int 0) (ty := .boolean) (C := RX1) (T := TX1) (N := 14) hx hb hts (fun _ h => List.mem_cons_of_mem _ (List.mem_append_right _ h)) tyX1 tyX1_ok nmX1 hown hK hP hD hS 0 rfl rfl 4 (by decide) (hts (.fieldLink RX1 46 "RetiredTimerModel" "counting" "Z") (by decide +kernel)) (fun _ h9 => h9) rfl (by decide +kernel) rfl rfl (Nat.le_of_ble_eq_true rfl) dX1_reset_22 (fun H locs hP hD hS => ?_)
  have hP : va_P (dC, dI) vwCl (rt_mw h0 a1 a2 k1 k2 f g ent 0 0 0 0 pnd msk sr sav tkn com) H := hP
  have hD : va_D A (rt_mw h0 a1 a2 k1 k2 f g ent 0 0 0 0 pnd msk sr sav tkn com) := hD
  refine lv_aload_n hx hb dX1_reset_25 rfl (lv_at hl 0 rfl) ?_
  refine lv_iconst (v := 0) hx hb dX1_reset_26 (by decide) ?_
  refine va_put (D := (dC, dI)) (ci := 1) (v := .int 0) (ty := .boolean) (C := RX1) (T := TX1) (N := 14) hx hb hts (fun _ h => List.mem_cons_of_mem _ (List.mem_append_right _ h)) tyX1 tyX1_ok nmX1 hown hK hP hD hS 0 rfl rfl 5 (by decide) (hts (.fieldLink RX1 32 "RetiredTimerModel" "pending" "Z") (by decide +kernel)) (fun _ h9 => h9) rfl (by decide +kernel) rfl rfl (Nat.le_of_ble_eq_true rfl) dX1_reset_27 (fun H locs hP hD hS => ?_)
  have hP : va_P (dC, dI) vwCl (rt_mw h0 a1 a2 k1 k2 f g ent 0 0 0 0 0 msk sr sav tkn com) H := hP
  have hD : va_D A (rt_mw h0 a1 a2 k1 k2 f g ent 0 0 0 0 0 msk sr sav tkn com) := hD
  refine lv_aload_n hx hb dX1_reset_30 rfl (lv_at hl 0 rfl) ?_
  refine lv_iconst (v := 0) hx hb dX1_reset_31 (by decide) ?_
  refine va_put (D := (dC, dI)) (ci := 1) (v := .int 0) (ty := .int) (C := RX1) (T := TX1) (N := 14) hx hb hts (fun _ h => List.mem_cons_of_mem _ (List.mem_append_right _ h)) tyX1 tyX1_ok nmX1 hown hK hP hD hS 0 rfl rfl 6 (by decide) (hts (.fieldLink RX1 40 "RetiredTimerModel" "mask" "I") (by decide +kernel)) (fun _ h9 => h9) rfl (by decide +kernel) rfl rfl (Nat.le_of_ble_eq_true rfl) dX1_reset_32 (fun H locs hP hD hS => ?_)
  have hP : va_P (dC, dI) vwCl (rt_mw h0 a1 a2 k1 k2 f g ent 0 0 0 0 0 0 sr sav tkn com) H := hP
  have hD : va_D A (rt_mw h0 a1 a2 k1 k2 f g ent 0 0 0 0 0 0 sr sav tkn com) := hD
  refine lv_aload_n hx hb dX1_reset_35 rfl (lv_at hl 0 rfl) ?_
  refine lv_iconst (v := 1) hx hb dX1_reset_36 (by decide) ?_
  refine va_put (D := (dC, dI)) (ci := 1) (v := .int 1) (ty := .int) (C := RX1) (T := TX1) (N := 14) hx hb hts (fun _ h => List.mem_cons_of_mem _ (List.mem_append_right _ h)) tyX1 tyX1_ok nmX1 hown hK hP hD hS 0 rfl rfl 7 (by decide) (hts (.fieldLink RX1 7 "RetiredTimerModel" "sr" "I") (by decide +kernel)) (fun _ h9 => h9) rfl (by decide +kernel) rfl rfl (Nat.le_of_ble_eq_true rfl) dX1_reset_37 (fun H locs hP hD hS => ?_)
  have hP : va_P (dC, dI) vwCl (rt_mw h0 a1 a2 k1 k2 f g ent 0 0 0 0 0 0 1 sav tkn com) H := hP
  have hD : va_D A (rt_mw h0 a1 a2 k1 k2 f g ent 0 0 0 0 0 0 1 sav tkn com) := hD
  refine lv_aload_n hx hb dX1_reset_40 rfl (lv_at hl 0 rfl) ?_
  refine lv_iconst (v := 0) hx hb dX1_reset_41 (by decide) ?_
  refine va_put (D := (dC, dI)) (ci := 1) (v := .int 0) (ty := .int) (C := RX1) (T := TX1) (N := 14) hx hb hts (fun _ h => List.mem_cons_of_mem _ (List.mem_append_right _ h)) tyX1 tyX1_ok nmX1 hown hK hP hD hS 0 rfl rfl 8 (by decide) (hts (.fieldLink RX1 62 "RetiredTimerModel" "saved" "I") (by decide +kernel)) (fun _ h9 => h9) rfl (by decide +kernel) rfl rfl (Nat.le_of_ble_eq_true rfl) dX1_reset_42 (fun H locs hP hD hS => ?_)
  have hP : va_P (dC, dI) vwCl (rt_mw h0 a1 a2 k1 k2 f g ent 0 0 0 0 0 0 1 0 tkn com) H := hP
  have hD : va_D A (rt_mw h0 a1 a2 k1 k2 f g ent 0 0 0 0 0 0 1 0 tkn com) := hD
  refine lv_aload_n hx hb dX1_reset_45 rfl (lv_at hl 0 rfl) ?_
  refine lv_iconst (v := 0) hx hb dX1_reset_46 (by decide) ?_
  refine va_put (D := (dC, dI)) (ci := 1) (v := .int 0) (ty := .int) (C := RX1) (T := TX1) (N := 14) hx hb hts (fun _ h => List.mem_cons_of_mem _ (List.mem_append_right _ h)) tyX1 tyX1_ok nmX1 hown hK hP hD hS 0 rfl rfl 9 (by decide) (hts (.fieldLink RX1 65 "RetiredTimerModel" "taken" "I") (by decide +kernel)) (fun _ h9 => h9) rfl (by decide +kernel) rfl rfl (Nat.le_of_ble_eq_true rfl) dX1_reset_47 (fun H locs hP hD hS => ?_)
  have hP : va_P (dC, dI) vwCl (rt_mw h0 a1 a2 k1 k2 f g ent 0 0 0 0 0 0 1 0 0 com) H := hP
  have hD : va_D A (rt_mw h0 a1 a2 k1 k2 f g ent 0 0 0 0 0 0 1 0 0 com) := hD
  refine lv_aload_n hx hb dX1_reset_50 rfl (lv_at hl 0 rfl) ?_
  refine lv_iconst (v := 0) hx hb dX1_reset_51 (by decide) ?_
  refine va_put (D := (dC, dI)) (ci := 1) (v := .int 0) (ty := .int) (C := RX1) (T := TX1) (N := 14) hx hb hts (fun _ h => List.mem_cons_of_mem _ (List.mem_append_right _ h)) tyX1 tyX1_ok nmX1 hown hK hP hD hS 0 rfl rfl 12 (by decide) (hts (.fieldLink RX1 26 "RetiredTimerModel" "entries" "I") (by decide +kernel)) (fun _ h9 => h9) rfl (by decide +kernel) rfl rfl (Nat.le_of_ble_eq_true rfl) dX1_reset_52 (fun H locs hP hD hS => ?_)
  have hP : va_P (dC, dI) vwCl (rt_mw h0 a1 a2 k1 k2 f g 0 0 0 0 0 0 0 1 0 0 com) H := hP
  have hD : va_D A (rt_mw h0 a1 a2 k1 k2 f g 0 0 0 0 0 0 0 1 0 0 com) := hD
  refine lv_aload_n hx hb dX1_reset_55 rfl (lv_at hl 0 rfl) ?_
  refine lv_iconst (v := 0) hx hb dX1_reset_56 (by decide) ?_
  refine va_put (D := (dC, dI)) (ci := 1) (v := .int 0) (ty := .int) (C := RX1) (T := TX1) (N := 14) hx hb hts (fun _ h => List.mem_cons_of_mem _ (List.mem_append_right _ h)) tyX1 tyX1_ok nmX1 hown hK hP hD hS 0 rfl rfl 13 (by decide) (hts (.fieldLink RX1 23 "RetiredTimerModel" "come" "I") (by decide +kernel)) (fun _ h9 => h9) rfl (by decide +kernel) rfl rfl (Nat.le_of_ble_eq_true rfl) dX1_reset_57 (fun H locs hP hD hS => ?_)
  have hP : va_P (dC, dI) vwCl (rt_mw h0 a1 a2 k1 k2 f g 0 0 0 0 0 0 0 1 0 0 0) H := hP
  have hD : va_D A (rt_mw h0 a1 a2 k1 k2 f g 0 0 0 0 0 0 0 1 0 0 0) := hD
  exact W.vret hx hb hr (fun t ht hW => ⟨⟨(), rfl, trivial, by rw [ht]; exact hP, va_K.moved hW.alike hK, hD⟩, hS.F ht⟩) hS.2.2 dX1_reset_60
set_option maxHeartbeats 4000000 in
set_option maxRecDepth 100000 in
theorem c_M_back (l : Launch) (dC : Nat → ClassId) (dI : Nat → Nat → Nat) (h0 a1 a2 sz : Nat) (k1 k2 : ClassId) (f g : Nat → Int32) (ent ret cnt per cng pnd msk sr sav tkn com : Int32) :
    Met l yX1_back wsX1_back ({ frames := 0, cells := 0, slots := 0, locals := 0 }) (va_Pc [.ref h0] (rt_pre dC dI (rt_mw h0 a1 a2 k1 k2 f g ent ret cnt per cng pnd msk sr sav tkn com) [(k1, .int), (k2, .int)] sz)) (va_Qv (fun (u : Unit) => True) (rt_post dC dI [(k1, .int), (k2, .int)] (va_A (rt_mw h0 a1 a2 k1 k2 f g ent ret cnt per cng pnd msk sr sav tkn com) sz) (fun (u : Unit) => rt_mw h0 a1 a2 k1 k2 f g ent ret cnt per cng pnd msk sav sav tkn com)) (va_A (rt_mw h0 a1 a2 k1 k2 f g ent ret cnt per cng pnd msk sr sav tkn com) sz)) 0 0 (va_A (rt_mw h0 a1 a2 k1 k2 f g ent ret cnt per cng pnd msk sr sav tkn com) sz) := by
  refine Met.ofW (cc := cX1_back) (maxL := 1) (ret := none) (by decide) rfl ?_
  intro p e0 s m args below meth c s₁ B hml hv
  obtain ⟨rfl, hsz, hP, hK, hD0⟩ := hv
  have hx := B.exec
  have hb := B.bytes
  have hr := B.returns
  have hts := atoms_spec (ws := wsX1_back) B.pre
  have hown : s.vm.findClass RX1 = some m.cls := findClass_of_methodNamed B.named
  have hlocks := B.notSynchronized
  subst hsz
  have hD := hD0.self (sz := s.heap.size)
  generalize hAe : va_A (rt_mw h0 a1 a2 k1 k2 f g ent ret cnt per cng pnd msk sr sav tkn com) s.heap.size = A at hD ⊢
  have hA : ∀ q : Nat, s.heap.size ≤ q → A q := fun q h => by rw [← hAe]; exact Or.inr h
  have hS : va_S A s.heap s.heap [] := va_S.rf
  have hP : va_P (dC, dI) vwCl (rt_mw h0 a1 a2 k1 k2 f g ent ret cnt per cng pnd msk sr sav tkn com) s.heap := hP
  have hl := lv_entry ([.ref h0]) (n := 1) (Nat.le_of_ble_eq_true rfl)
  rw [lg_entry_eq]
  generalize (lg_sl ([.ref h0]) ++ List.replicate (1 - (lg_sl ([.ref h0])).length) Slot.unset).toArray = ls at hl ⊢
  have hl : lv_has ls 1 [(0, .ref h0)] := hl
  refine lv_aload_n hx hb dX1_back_0 rfl (lv_at hl 0 rfl) ?_
  refine lv_iconst (v := 0) hx hb dX1_back_1 (by decide) ?_
  refine va_put (D := (dC, dI)) (ci := 1) (v := .int 0) (ty := .int) (C := RX1) (T := TX1) (N := 14) hx hb hts (fun _ h => List.mem_cons_of_mem _ (List.mem_append_right _ h)) tyX1 tyX1_ok nmX1 hown hK hP hD hS 0 rfl rfl 0 (by decide) (hts (.fieldLink RX1 20 "RetiredTimerModel" "thrown" "I") (by decide +kernel)) (fun _ h9 => h9) rfl (by decide +kernel) rfl rfl (Nat.le_of_ble_eq_true rfl) dX1_back_2 (fun H locs hP hD hS => ?_)
  have hP : va_P (dC, dI) vwCl (rt_mw h0 a1 a2 k1 k2 f g ent ret cnt per cng pnd msk sr sav tkn com) H := hP
  have hD : va_D A (rt_mw h0 a1 a2 k1 k2 f g ent ret cnt per cng pnd msk sr sav tkn com) := hD
  refine lv_aload_n hx hb dX1_back_5 rfl (lv_at hl 0 rfl) ?_
  refine lv_aload_n hx hb dX1_back_6 rfl (lv_at hl 0 rfl) ?_
  refine va_get (D := (dC, dI)) (ci := 1) (v := .int sav) (C := RX1) (T := TX1) (N := 14) hx hb hts (fun _ h => List.mem_cons_of_mem _ (List.mem_append_right _ h)) hown hK hP 0 rfl rfl 8 (by decide) (hts (.fieldLink RX1 62 "RetiredTimerModel" "saved" "I") (by decide +kernel)) (fun _ h9 => h9) rfl dX1_back_7 ?_
  refine va_put (D := (dC, dI)) (ci := 1) (v := .int sav) (ty := .int) (C := RX1) (T := TX1) (N := 14) hx hb hts (fun _ h => List.mem_cons_of_mem _ (List.mem_append_right _ h)) tyX1 tyX1_ok nmX1 hown hK hP hD hS 0 rfl rfl 7 (by decide) (hts (.fieldLink RX1 7 "RetiredTimerModel" "sr" "I") (by decide +kernel)) (fun _ h9 => h9) rfl (by decide +kernel) rfl rfl (Nat.le_of_ble_eq_true rfl) dX1_back_10 (fun H locs hP hD hS => ?_)
  have hP : va_P (dC, dI) vwCl (rt_mw h0 a1 a2 k1 k2 f g ent ret cnt per cng pnd msk sav sav tkn com) H := hP
  have hD : va_D A (rt_mw h0 a1 a2 k1 k2 f g ent ret cnt per cng pnd msk sav sav tkn com) := hD
  exact W.vret hx hb hr (fun t ht hW => ⟨⟨(), rfl, trivial, by rw [ht]; exact hP, va_K.moved hW.alike hK, hD⟩, hS.F ht⟩) hS.2.2 dX1_back_13
set_option maxHeartbeats 4000000 in
set_option maxRecDepth 100000 in
theorem c_M_mode (l : Launch) (dC : Nat → ClassId) (dI : Nat → Nat → Nat) (h0 a1 a2 sz : Nat) (k1 k2 : ClassId) (f g : Nat → Int32) (ent ret cnt per cng pnd msk sr sav tkn com : Int32) (p1 : Int32) :
    Met l yX1_mode wsX1_mode ({ frames := 0, cells := 0, slots := 0, locals := 0 }) (va_Pc [.ref h0, .int p1] (rt_pre dC dI (rt_mw h0 a1 a2 k1 k2 f g ent ret cnt per cng pnd msk sr sav tkn com) [(k1, .int), (k2, .int)] sz)) (va_Qv (fun (u : Unit) => True) (rt_post dC dI [(k1, .int), (k2, .int)] (va_A (rt_mw h0 a1 a2 k1 k2 f g ent ret cnt per cng pnd msk sr sav tkn com) sz) (fun (u : Unit) => rt_mw h0 a1 a2 k1 k2 f g ent ret cnt per cng pnd msk (p1 &&& 39) sav tkn com)) (va_A (rt_mw h0 a1 a2 k1 k2 f g ent ret cnt per cng pnd msk sr sav tkn com) sz)) 0 0 (va_A (rt_mw h0 a1 a2 k1 k2 f g ent ret cnt per cng pnd msk sr sav tkn com) sz) := by
  refine Met.ofW (cc := cX1_mode) (maxL := 2) (ret := none) (by decide) rfl ?_
  intro p e0 s m args below meth c s₁ B hml hv
  obtain ⟨rfl, hsz, hP, hK, hD0⟩ := hv
  have hx := B.exec
  have hb := B.bytes
  have hr := B.returns
  have hts := atoms_spec (ws := wsX1_mode) B.pre
  have hown : s.vm.findClass RX1 = some m.cls := findClass_of_methodNamed B.named
  have hlocks := B.notSynchronized
  subst hsz
  have hD := hD0.self (sz := s.heap.size)
  generalize hAe : va_A (rt_mw h0 a1 a2 k1 k2 f g ent ret cnt per cng pnd msk sr sav tkn com) s.heap.size = A at hD ⊢
  have hA : ∀ q : Nat, s.heap.size ≤ q → A q := fun q h => by rw [← hAe]; exact Or.inr h
  have hS : va_S A s.heap s.heap [] := va_S.rf
  have hP : va_P (dC, dI) vwCl (rt_mw h0 a1 a2 k1 k2 f g ent ret cnt per cng pnd msk sr sav tkn com) s.heap := hP
  have hl := lv_entry ([.ref h0, .int p1]) (n := 2) (Nat.le_of_ble_eq_true rfl)
  rw [lg_entry_eq]
  generalize (lg_sl ([.ref h0, .int p1]) ++ List.replicate (2 - (lg_sl ([.ref h0, .int p1])).length) Slot.unset).toArray = ls at hl ⊢
  have hl : lv_has ls 2 [(0, .ref h0), (1, .int p1)] := hl
  refine lv_aload_n hx hb dX1_mode_0 rfl (lv_at hl 0 rfl) ?_
  refine lv_iconst (v := 0) hx hb dX1_mode_1 (by decide) ?_
  refine va_put (D := (dC, dI)) (ci := 1) (v := .int 0) (ty := .int) (C := RX1) (T := TX1) (N := 14) hx hb hts (fun _ h => List.mem_cons_of_mem _ (List.mem_append_right _ h)) tyX1 tyX1_ok nmX1 hown hK hP hD hS 0 rfl rfl 0 (by decide) (hts (.fieldLink RX1 20 "RetiredTimerModel" "thrown" "I") (by decide +kernel)) (fun _ h9 => h9) rfl (by decide +kernel) rfl rfl (Nat.le_of_ble_eq_true rfl) dX1_mode_2 (fun H locs hP hD hS => ?_)
  have hP : va_P (dC, dI) vwCl (rt_mw h0 a1 a2 k1 k2 f g ent ret cnt per cng pnd msk sr sav tkn com) H := hP
  have hD : va_D A (rt_mw h0 a1 a2 k1 k2 f g ent ret cnt per cng pnd msk sr sav tkn com) := hD
  refine lv_aload_n hx hb dX1_mode_5 rfl (lv_at hl 0 rfl) ?_
  refine lv_iload_n hx hb dX1_mode_6 rfl (lv_at hl 1 rfl) ?_
  refine lv_bipush (v := 39) hx hb dX1_mode_7 (by decide) ?_
  refine lv_iand hx hb dX1_mode_9 ?_
  refine va_put (D := (dC, dI)) (ci := 1) (v := .int (p1 &&& 39)) (ty := .int) (C := RX1) (T := TX1) (N := 14) hx hb hts (fun _ h => List.mem_cons_of_mem _ (List.mem_append_right _ h)) tyX1 tyX1_ok nmX1 hown hK hP hD hS 0 rfl rfl 7 (by decide) (hts (.fieldLink RX1 7 "RetiredTimerModel" "sr" "I") (by decide +kernel)) (fun _ h9 => h9) rfl (by decide +kernel) rfl rfl (Nat.le_of_ble_eq_true rfl) dX1_mode_10 (fun H locs hP hD hS => ?_)
  have hP : va_P (dC, dI) vwCl (rt_mw h0 a1 a2 k1 k2 f g ent ret cnt per cng pnd msk (p1 &&& 39) sav tkn com) H := hP
  have hD : va_D A (rt_mw h0 a1 a2 k1 k2 f g ent ret cnt per cng pnd msk (p1 &&& 39) sav tkn com) := hD
  exact W.vret hx hb hr (fun t ht hW => ⟨⟨(), rfl, trivial, by rw [ht]; exact hP, va_K.moved hW.alike hK, hD⟩, hS.F ht⟩) hS.2.2 dX1_mode_13
set_option maxHeartbeats 4000000 in
set_option maxRecDepth 100000 in
theorem c_M_mask (l : Launch) (dC : Nat → ClassId) (dI : Nat → Nat → Nat) (h0 a1 a2 sz : Nat) (k1 k2 : ClassId) (f g : Nat → Int32) (ent ret cnt per cng pnd msk sr sav tkn com : Int32) (p1 : Int32) :
    Met l yX1_mask wsX1_mask ({ frames := 0, cells := 0, slots := 0, locals := 0 }) (va_Pc [.ref h0, .int p1] (rt_pre dC dI (rt_mw h0 a1 a2 k1 k2 f g ent ret cnt per cng pnd msk sr sav tkn com) [(k1, .int), (k2, .int)] sz)) (va_Qv (fun (u : Unit) => True) (rt_post dC dI [(k1, .int), (k2, .int)] (va_A (rt_mw h0 a1 a2 k1 k2 f g ent ret cnt per cng pnd msk sr sav tkn com) sz) (fun (u : Unit) => rt_mw h0 a1 a2 k1 k2 f g ent ret cnt per cng pnd p1 sr sav tkn com)) (va_A (rt_mw h0 a1 a2 k1 k2 f g ent ret cnt per cng pnd msk sr sav tkn com) sz)) 0 0 (va_A (rt_mw h0 a1 a2 k1 k2 f g ent ret cnt per cng pnd msk sr sav tkn com) sz) := by
  refine Met.ofW (cc := cX1_mask) (maxL := 2) (ret := none) (by decide) rfl ?_
  intro p e0 s m args below meth c s₁ B hml hv
  obtain ⟨rfl, hsz, hP, hK, hD0⟩ := hv
  have hx := B.exec
  have hb := B.bytes
  have hr := B.returns
  have hts := atoms_spec (ws := wsX1_mask) B.pre
  have hown : s.vm.findClass RX1 = some m.cls := findClass_of_methodNamed B.named
  have hlocks := B.notSynchronized
  subst hsz
  have hD := hD0.self (sz := s.heap.size)
  generalize hAe : va_A (rt_mw h0 a1 a2 k1 k2 f g ent ret cnt per cng pnd msk sr sav tkn com) s.heap.size = A at hD ⊢
  have hA : ∀ q : Nat, s.heap.size ≤ q → A q := fun q h => by rw [← hAe]; exact Or.inr h
  have hS : va_S A s.heap s.heap [] := va_S.rf
  have hP : va_P (dC, dI) vwCl (rt_mw h0 a1 a2 k1 k2 f g ent ret cnt per cng pnd msk sr sav tkn com) s.heap := hP
  have hl := lv_entry ([.ref h0, .int p1]) (n := 2) (Nat.le_of_ble_eq_true rfl)
  rw [lg_entry_eq]
  generalize (lg_sl ([.ref h0, .int p1]) ++ List.replicate (2 - (lg_sl ([.ref h0, .int p1])).length) Slot.unset).toArray = ls at hl ⊢
  have hl : lv_has ls 2 [(0, .ref h0), (1, .int p1)] := hl
  refine lv_aload_n hx hb dX1_mask_0 rfl (lv_at hl 0 rfl) ?_
  refine lv_iconst (v := 0) hx hb dX1_mask_1 (by decide) ?_
  refine va_put (D := (dC, dI)) (ci := 1) (v := .int 0) (ty := .int) (C := RX1) (T := TX1) (N := 14) hx hb hts (fun _ h => List.mem_cons_of_mem _ (List.mem_append_right _ h)) tyX1 tyX1_ok nmX1 hown hK hP hD hS 0 rfl rfl 0 (by decide) (hts (.fieldLink RX1 20 "RetiredTimerModel" "thrown" "I") (by decide +kernel)) (fun _ h9 => h9) rfl (by decide +kernel) rfl rfl (Nat.le_of_ble_eq_true rfl) dX1_mask_2 (fun H locs hP hD hS => ?_)
  have hP : va_P (dC, dI) vwCl (rt_mw h0 a1 a2 k1 k2 f g ent ret cnt per cng pnd msk sr sav tkn com) H := hP
  have hD : va_D A (rt_mw h0 a1 a2 k1 k2 f g ent ret cnt per cng pnd msk sr sav tkn com) := hD
  refine lv_aload_n hx hb dX1_mask_5 rfl (lv_at hl 0 rfl) ?_
  refine lv_iload_n hx hb dX1_mask_6 rfl (lv_at hl 1 rfl) ?_
  refine va_put (D := (dC, dI)) (ci := 1) (v := .int p1) (ty := .int) (C := RX1) (T := TX1) (N := 14) hx hb hts (fun _ h => List.mem_cons_of_mem _ (List.mem_append_right _ h)) tyX1 tyX1_ok nmX1 hown hK hP hD hS 0 rfl rfl 6 (by decide) (hts (.fieldLink RX1 40 "RetiredTimerModel" "mask" "I") (by decide +kernel)) (fun _ h9 => h9) rfl (by decide +kernel) rfl rfl (Nat.le_of_ble_eq_true rfl) dX1_mask_7 (fun H locs hP hD hS => ?_)
  have hP : va_P (dC, dI) vwCl (rt_mw h0 a1 a2 k1 k2 f g ent ret cnt per cng pnd p1 sr sav tkn com) H := hP
  have hD : va_D A (rt_mw h0 a1 a2 k1 k2 f g ent ret cnt per cng pnd p1 sr sav tkn com) := hD
  exact W.vret hx hb hr (fun t ht hW => ⟨⟨(), rfl, trivial, by rw [ht]; exact hP, va_K.moved hW.alike hK, hD⟩, hS.F ht⟩) hS.2.2 dX1_mask_10
set_option maxHeartbeats 4000000 in
set_option maxRecDepth 100000 in
theorem c_M_count (l : Launch) (dC : Nat → ClassId) (dI : Nat → Nat → Nat) (h0 a1 a2 sz : Nat) (k1 k2 : ClassId) (f g : Nat → Int32) (ent ret cnt per cng pnd msk sr sav tkn com : Int32) (p1 : Int32) :
    Met l yX1_count wsX1_count ({ frames := 0, cells := 0, slots := 0, locals := 0 }) (va_Pc [.ref h0, .int p1] (rt_pre dC dI (rt_mw h0 a1 a2 k1 k2 f g ent ret cnt per cng pnd msk sr sav tkn com) [(k1, .int), (k2, .int)] sz)) (va_Qv (fun (u : Unit) => True) (rt_post dC dI [(k1, .int), (k2, .int)] (va_A (rt_mw h0 a1 a2 k1 k2 f g ent ret cnt per cng pnd msk sr sav tkn com) sz) (fun (u : Unit) => rt_mw h0 a1 a2 k1 k2 f g ent ret p1 per cng pnd msk sr sav tkn com)) (va_A (rt_mw h0 a1 a2 k1 k2 f g ent ret cnt per cng pnd msk sr sav tkn com) sz)) 0 0 (va_A (rt_mw h0 a1 a2 k1 k2 f g ent ret cnt per cng pnd msk sr sav tkn com) sz) := by
  refine Met.ofW (cc := cX1_count) (maxL := 2) (ret := none) (by decide) rfl ?_
  intro p e0 s m args below meth c s₁ B hml hv
  obtain ⟨rfl, hsz, hP, hK, hD0⟩ := hv
  have hx := B.exec
  have hb := B.bytes
  have hr := B.returns
  have hts := atoms_spec (ws := wsX1_count) B.pre
  have hown : s.vm.findClass RX1 = some m.cls := findClass_of_methodNamed B.named
  have hlocks := B.notSynchronized
  subst hsz
  have hD := hD0.self (sz := s.heap.size)
  generalize hAe : va_A (rt_mw h0 a1 a2 k1 k2 f g ent ret cnt per cng pnd msk sr sav tkn com) s.heap.size = A at hD ⊢
  have hA : ∀ q : Nat, s.heap.size ≤ q → A q := fun q h => by rw [← hAe]; exact Or.inr h
  have hS : va_S A s.heap s.heap [] := va_S.rf
  have hP : va_P (dC, dI) vwCl (rt_mw h0 a1 a2 k1 k2 f g ent ret cnt per cng pnd msk sr sav tkn com) s.heap := hP
  have hl := lv_entry ([.ref h0, .int p1]) (n := 2) (Nat.le_of_ble_eq_true rfl)
  rw [lg_entry_eq]
  generalize (lg_sl ([.ref h0, .int p1]) ++ List.replicate (2 - (lg_sl ([.ref h0, .int p1])).length) Slot.unset).toArray = ls at hl ⊢
  have hl : lv_has ls 2 [(0, .ref h0), (1, .int p1)] := hl
  refine lv_aload_n hx hb dX1_count_0 rfl (lv_at hl 0 rfl) ?_
  refine lv_iconst (v := 0) hx hb dX1_count_1 (by decide) ?_
  refine va_put (D := (dC, dI)) (ci := 1) (v := .int 0) (ty := .int) (C := RX1) (T := TX1) (N := 14) hx hb hts (fun _ h => List.mem_cons_of_mem _ (List.mem_append_right _ h)) tyX1 tyX1_ok nmX1 hown hK hP hD hS 0 rfl rfl 0 (by decide) (hts (.fieldLink RX1 20 "RetiredTimerModel" "thrown" "I") (by decide +kernel)) (fun _ h9 => h9) rfl (by decide +kernel) rfl rfl (Nat.le_of_ble_eq_true rfl) dX1_count_2 (fun H locs hP hD hS => ?_)
  have hP : va_P (dC, dI) vwCl (rt_mw h0 a1 a2 k1 k2 f g ent ret cnt per cng pnd msk sr sav tkn com) H := hP
  have hD : va_D A (rt_mw h0 a1 a2 k1 k2 f g ent ret cnt per cng pnd msk sr sav tkn com) := hD
  refine lv_aload_n hx hb dX1_count_5 rfl (lv_at hl 0 rfl) ?_
  refine lv_iload_n hx hb dX1_count_6 rfl (lv_at hl 1 rfl) ?_
  refine va_put (D := (dC, dI)) (ci := 1) (v := .int p1) (ty := .int) (C := RX1) (T := TX1) (N := 14) hx hb hts (fun _ h => List.mem_cons_of_mem _ (List.mem_append_right _ h)) tyX1 tyX1_ok nmX1 hown hK hP hD hS 0 rfl rfl 2 (by decide) (hts (.fieldLink RX1 49 "RetiredTimerModel" "count" "I") (by decide +kernel)) (fun _ h9 => h9) rfl (by decide +kernel) rfl rfl (Nat.le_of_ble_eq_true rfl) dX1_count_7 (fun H locs hP hD hS => ?_)
  have hP : va_P (dC, dI) vwCl (rt_mw h0 a1 a2 k1 k2 f g ent ret p1 per cng pnd msk sr sav tkn com) H := hP
  have hD : va_D A (rt_mw h0 a1 a2 k1 k2 f g ent ret p1 per cng pnd msk sr sav tkn com) := hD
  exact W.vret hx hb hr (fun t ht hW => ⟨⟨(), rfl, trivial, by rw [ht]; exact hP, va_K.moved hW.alike hK, hD⟩, hS.F ht⟩) hS.2.2 dX1_count_10
set_option maxHeartbeats 4000000 in
set_option maxRecDepth 100000 in
theorem c_M_timer (l : Launch) (dC : Nat → ClassId) (dI : Nat → Nat → Nat) (h0 a1 a2 sz : Nat) (k1 k2 : ClassId) (f g : Nat → Int32) (ent ret cnt per cng pnd msk sr sav tkn com : Int32) (p1 : Int32) (p2 : Int32) (p3 : Int32) (hb2 : p2 = 0 ∨ p2 = 1) (hb3 : p3 = 0 ∨ p3 = 1) :
    Met l yX1_timer wsX1_timer ({ frames := 0, cells := 0, slots := 0, locals := 0 }) (va_Pc [.ref h0, .int p1, .int p2, .int p3] (rt_pre dC dI (rt_mw h0 a1 a2 k1 k2 f g ent ret cnt per cng pnd msk sr sav tkn com) [(k1, .int), (k2, .int)] sz)) (va_Qv (fun (u : Unit) => True) (rt_post dC dI [(k1, .int), (k2, .int)] (va_A (rt_mw h0 a1 a2 k1 k2 f g ent ret cnt per cng pnd msk sr sav tkn com) sz) (fun (u : Unit) => rt_mw h0 a1 a2 k1 k2 f g ent ret cnt (p1 &&& 268435455) p2 p3 msk sr sav tkn com)) (va_A (rt_mw h0 a1 a2 k1 k2 f g ent ret cnt per cng pnd msk sr sav tkn com) sz)) 0 0 (va_A (rt_mw h0 a1 a2 k1 k2 f g ent ret cnt per cng pnd msk sr sav tkn com) sz) := by
  refine Met.ofW (cc := cX1_timer) (maxL := 4) (ret := none) (by decide) rfl ?_
  intro p e0 s m args below meth c s₁ B hml hv
  obtain ⟨rfl, hsz, hP, hK, hD0⟩ := hv
  have hx := B.exec
  have hb := B.bytes
  have hr := B.returns
  have hts := atoms_spec (ws := wsX1_timer) B.pre
  have hown : s.vm.findClass RX1 = some m.cls := findClass_of_methodNamed B.named
  have hlocks := B.notSynchronized
  subst hsz
  have hD := hD0.self (sz := s.heap.size)
  generalize hAe : va_A (rt_mw h0 a1 a2 k1 k2 f g ent ret cnt per cng pnd msk sr sav tkn com) s.heap.size = A at hD ⊢
  have hA : ∀ q : Nat, s.heap.size ≤ q → A q := fun q h => by rw [← hAe]; exact Or.inr h
  have hS : va_S A s.heap s.heap [] := va_S.rf
  have hP : va_P (dC, dI) vwCl (rt_mw h0 a1 a2 k1 k2 f g ent ret cnt per cng pnd msk sr sav tkn com) s.heap := hP
  have hl := lv_entry ([.ref h0, .int p1, .int p2, .int p3]) (n := 4) (Nat.le_of_ble_eq_true rfl)
  rw [lg_entry_eq]
  generalize (lg_sl ([.ref h0, .int p1, .int p2, .int p3]) ++ List.replicate (4 - (lg_sl ([.ref h0, .int p1, .int p2, .int p3])).length) Slot.unset).toArray = ls at hl ⊢
  have hl : lv_has ls 4 [(0, .ref h0), (1, .int p1), (2, .int p2), (3, .int p3)] := hl
  refine lv_aload_n hx hb dX1_timer_0 rfl (lv_at hl 0 rfl) ?_
  refine lv_iconst (v := 0) hx hb dX1_timer_1 (by decide) ?_
  refine va_put (D := (dC, dI)) (ci := 1) (v := .int 0) (ty := .int) (C := RX1) (T := TX1) (N := 14) hx hb hts (fun _ h => List.mem_cons_of_mem _ (List.mem_append_right _ h)) tyX1 tyX1_ok nmX1 hown hK hP hD hS 0 rfl rfl 0 (by decide) (hts (.fieldLink RX1 20 "RetiredTimerModel" "thrown" "I") (by decide +kernel)) (fun _ h9 => h9) rfl (by decide +kernel) rfl rfl (Nat.le_of_ble_eq_true rfl) dX1_timer_2 (fun H locs hP hD hS => ?_)
  have hP : va_P (dC, dI) vwCl (rt_mw h0 a1 a2 k1 k2 f g ent ret cnt per cng pnd msk sr sav tkn com) H := hP
  have hD : va_D A (rt_mw h0 a1 a2 k1 k2 f g ent ret cnt per cng pnd msk sr sav tkn com) := hD
  refine lv_aload_n hx hb dX1_timer_5 rfl (lv_at hl 0 rfl) ?_
  refine lv_iload_n hx hb dX1_timer_6 rfl (lv_at hl 1 rfl) ?_
  refine lv_ldc (v := 268435455) hx hb hown (hts (.constant RX1 68 268435455) (by decide +kernel)) dX1_timer_7 ?_
  refine lv_iand hx hb dX1_timer_9 ?_
  refine va_put (D := (dC, dI)) (ci := 1) (v := .int (p1 &&& 268435455)) (ty := .int) (C := RX1) (T := TX1) (N := 14) hx hb hts (fun _ h => List.mem_cons_of_mem _ (List.mem_append_right _ h)) tyX1 tyX1_ok nmX1 hown hK hP hD hS 0 rfl rfl 3 (by decide) (hts (.fieldLink RX1 52 "RetiredTimerModel" "period" "I") (by decide +kernel)) (fun _ h9 => h9) rfl (by decide +kernel) rfl rfl (Nat.le_of_ble_eq_true rfl) dX1_timer_10 (fun H locs hP hD hS => ?_)
  have hP : va_P (dC, dI) vwCl (rt_mw h0 a1 a2 k1 k2 f g ent ret cnt (p1 &&& 268435455) cng pnd msk sr sav tkn com) H := hP
  have hD : va_D A (rt_mw h0 a1 a2 k1 k2 f g ent ret cnt (p1 &&& 268435455) cng pnd msk sr sav tkn com) := hD
  refine lv_aload_n hx hb dX1_timer_13 rfl (lv_at hl 0 rfl) ?_
  refine lv_iload_n hx hb dX1_timer_14 rfl (lv_at hl 2 rfl) ?_
  refine va_put (D := (dC, dI)) (ci := 1) (v := .int p2) (ty := .boolean) (C := RX1) (T := TX1) (N := 14) hx hb hts (fun _ h => List.mem_cons_of_mem _ (List.mem_append_right _ h)) tyX1 tyX1_ok nmX1 hown hK hP hD hS 0 rfl rfl 4 (by decide) (hts (.fieldLink RX1 46 "RetiredTimerModel" "counting" "Z") (by decide +kernel)) (fun _ h9 => h9) rfl (by decide +kernel) (rt_bool hb2) (rt_boolF hb2) (Nat.le_of_ble_eq_true rfl) dX1_timer_15 (fun H locs hP hD hS => ?_)
  have hP : va_P (dC, dI) vwCl (rt_mw h0 a1 a2 k1 k2 f g ent ret cnt (p1 &&& 268435455) p2 pnd msk sr sav tkn com) H := hP
  have hD : va_D A (rt_mw h0 a1 a2 k1 k2 f g ent ret cnt (p1 &&& 268435455) p2 pnd msk sr sav tkn com) := hD
  refine lv_aload_n hx hb dX1_timer_18 rfl (lv_at hl 0 rfl) ?_
  refine lv_iload_n hx hb dX1_timer_19 rfl (lv_at hl 3 rfl) ?_
  refine va_put (D := (dC, dI)) (ci := 1) (v := .int p3) (ty := .boolean) (C := RX1) (T := TX1) (N := 14) hx hb hts (fun _ h => List.mem_cons_of_mem _ (List.mem_append_right _ h)) tyX1 tyX1_ok nmX1 hown hK hP hD hS 0 rfl rfl 5 (by decide) (hts (.fieldLink RX1 32 "RetiredTimerModel" "pending" "Z") (by decide +kernel)) (fun _ h9 => h9) rfl (by decide +kernel) (rt_bool hb3) (rt_boolF hb3) (Nat.le_of_ble_eq_true rfl) dX1_timer_20 (fun H locs hP hD hS => ?_)
  have hP : va_P (dC, dI) vwCl (rt_mw h0 a1 a2 k1 k2 f g ent ret cnt (p1 &&& 268435455) p2 p3 msk sr sav tkn com) H := hP
  have hD : va_D A (rt_mw h0 a1 a2 k1 k2 f g ent ret cnt (p1 &&& 268435455) p2 p3 msk sr sav tkn com) := hD
  exact W.vret hx hb hr (fun t ht hW => ⟨⟨(), rfl, trivial, by rw [ht]; exact hP, va_K.moved hW.alike hK, hD⟩, hS.F ht⟩) hS.2.2 dX1_timer_23
