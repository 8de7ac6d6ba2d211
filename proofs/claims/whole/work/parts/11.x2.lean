set_option maxHeartbeats 4000000 in
set_option maxRecDepth 100000 in
theorem lp_X_linesAt {p : Program} {l : Launch} {e0 : Env} {R : Room} {s : State} {m : MethodId} {args : Array Value} {below : List Frame} {meth : Method} {c : Code} {Q : State → Prop} {dC : Nat → ClassId} {dI : Nat → Nat → Nat} {h0 a1 a2 : Nat} {k1 k2 : ClassId} {H : Heap} {locs : List Loc} {f g : Nat → Int32} {ret cnt per cng pnd msk sr sav tkn : Int32} {p1 : Int32} {en : Nat} (hx : p.tables.exec = Jvm.exec) (hb : c.code = cX0_linesAt) (hts : ∀ w ∈ wsX0_linesAt, w.before args s = true) (hown : s.vm.findClass RX0 = some m.cls) (hK : va_K (dC, dI) vwCl [(k1, .int), (k2, .int)] s) (hP : va_P (dC, dI) vwCl (rt_xw h0 a1 a2 k1 k2 f g (nI en) ret cnt per cng pnd msk sr sav tkn) H) (h32 : en ≤ 32)
    (kx : ∀ (ls : Array Slot), lv_has ls 4 [(0, .ref h0), (1, .int p1), (2, .int (rt_pl f g p1 en)), (3, .int (nI en))] → W p l e0 R s m args below meth c H locs 0 0 Q (F0 m 41 ls [])) :
    ∀ (n i : Nat), i + n = en → ∀ (ls : Array Slot), lv_has ls 4 [(0, .ref h0), (1, .int p1), (2, .int (rt_pl f g p1 i)), (3, .int (nI i))] → W p l e0 R s m args below meth c H locs 0 0 Q (F0 m 4 ls []) := by
  intro n
  induction n with
  | zero =>
    intro i hi ls hl
    have hie : i = en := by omega
    subst hie
    refine lv_iload_n hx hb dX0_linesAt_4 rfl (lv_at hl 3 rfl) ?_
    refine lv_aload_n hx hb dX0_linesAt_5 rfl (lv_at hl 0 rfl) ?_
    refine va_get (D := (dC, dI)) (ci := 0) (v := .int (nI i)) (C := RX0) (T := TX0) (N := 12) hx hb hts (fun _ h => List.mem_cons_of_mem _ (List.mem_append_right _ h)) hown hK hP 0 rfl rfl 2 (by decide) (hts (.fieldLink RX0 19 "RetiredTimer" "entries" "I") (by decide +kernel)) (fun _ h9 => h9) rfl dX0_linesAt_6 ?_
    refine lv_icmp_ge (tgt := 41) hx hb dX0_linesAt_9 (by decide) (fun c_9 => ?_) (fun c_9 => absurd (Int32.le_refl _) c_9)
    exact kx ls (lv_sub hl [0, 1, 2, 3] rfl)
  | succ n ih =>
    intro i hi ls hl
    refine lv_iload_n hx hb dX0_linesAt_4 rfl (lv_at hl 3 rfl) ?_
    refine lv_aload_n hx hb dX0_linesAt_5 rfl (lv_at hl 0 rfl) ?_
    refine va_get (D := (dC, dI)) (ci := 0) (v := .int (nI en)) (C := RX0) (T := TX0) (N := 12) hx hb hts (fun _ h => List.mem_cons_of_mem _ (List.mem_append_right _ h)) hown hK hP 0 rfl rfl 2 (by decide) (hts (.fieldLink RX0 19 "RetiredTimer" "entries" "I") (by decide +kernel)) (fun _ h9 => h9) rfl dX0_linesAt_6 ?_
    refine lv_icmp_ge (tgt := 41) hx hb dX0_linesAt_9 (by decide) (fun c_9 => absurd c_9 (nI_ge (by omega) (by omega))) (fun c_9 => ?_)
    refine lv_iload_n hx hb dX0_linesAt_12 rfl (lv_at hl 3 rfl) ?_
    refine lv_bipush (v := 32) hx hb dX0_linesAt_13 (by decide) ?_
    refine lv_icmp_ge (tgt := 41) hx hb dX0_linesAt_15 (by decide) (fun c_15 => absurd c_15 (nI_ge (b := 32) (by omega) (by decide))) (fun c_15 => ?_)
    refine lv_aload_n hx hb dX0_linesAt_18 rfl (lv_at hl 0 rfl) ?_
    refine va_get (D := (dC, dI)) (ci := 0) (v := .ref a1) (C := RX0) (T := TX0) (N := 12) hx hb hts (fun _ h => List.mem_cons_of_mem _ (List.mem_append_right _ h)) hown hK hP 0 rfl rfl 0 (by decide) (hts (.fieldLink RX0 9 "RetiredTimer" "entryCounts" "[I") (by decide +kernel)) (fun _ h9 => h9) rfl dX0_linesAt_19 ?_
    refine lv_iload_n hx hb dX0_linesAt_22 rfl (lv_at hl 3 rfl) ?_
    refine va_iald hx hb hK hP 1 0 rfl rfl (vp_in_nI (N := 32) (by omega) (by decide)) dX0_linesAt_23 ?_
    rw [show f (nI i).toNatClampNeg = f i from by rw [nI_clamp (by omega)]]
    refine lv_iload_n hx hb dX0_linesAt_24 rfl (lv_at hl 1 rfl) ?_
    refine lv_icmp_gt (tgt := 35) hx hb dX0_linesAt_25 (by decide) (fun c_25 => ?_) (fun c_25 => ?_)
    · refine lv_iinc (v := (nI i) + 1) (lv' := [(3, .int ((nI i) + 1)), (0, .ref h0), (1, .int p1), (2, .int (rt_pl f g p1 i))]) hx hb dX0_linesAt_35 hl (k := 3) rfl rfl (by decide) rfl (fun ls hl => ?_)
      refine lv_goto (tgt := 4) hx hb dX0_linesAt_38 (by decide) ?_
      have e2 : rt_pl f g p1 (i + 1) = rt_pl f g p1 i := by simp only [rt_pl]; rw [if_neg (fun h => rt_nle2 h c_25)]
      exact ih (i + 1) (by omega) ls (by rw [e2, ← nI_1]; exact lv_sub hl [1, 2, 3, 0] rfl)
    · refine lv_aload_n hx hb dX0_linesAt_28 rfl (lv_at hl 0 rfl) ?_
      refine va_get (D := (dC, dI)) (ci := 0) (v := .ref a2) (C := RX0) (T := TX0) (N := 12) hx hb hts (fun _ h => List.mem_cons_of_mem _ (List.mem_append_right _ h)) hown hK hP 0 rfl rfl 1 (by decide) (hts (.fieldLink RX0 13 "RetiredTimer" "entryLines" "[I") (by decide +kernel)) (fun _ h9 => h9) rfl dX0_linesAt_29 ?_
      refine lv_iload_n hx hb dX0_linesAt_32 rfl (lv_at hl 3 rfl) ?_
      refine va_iald hx hb hK hP 2 1 rfl rfl (vp_in_nI (N := 32) (by omega) (by decide)) dX0_linesAt_33 ?_
      rw [show g (nI i).toNatClampNeg = g i from by rw [nI_clamp (by omega)]]
      refine lv_istore_n (lv' := [(2, .int (g i)), (0, .ref h0), (1, .int p1), (3, .int (nI i))]) hx hb dX0_linesAt_34 rfl hl (by decide) rfl (fun ls hl => ?_)
      refine lv_iinc (v := (nI i) + 1) (lv' := [(3, .int ((nI i) + 1)), (2, .int (g i)), (0, .ref h0), (1, .int p1)]) hx hb dX0_linesAt_35 hl (k := 3) rfl rfl (by decide) rfl (fun ls hl => ?_)
      refine lv_goto (tgt := 4) hx hb dX0_linesAt_38 (by decide) ?_
      have e2 : rt_pl f g p1 (i + 1) = g i := by simp only [rt_pl]; rw [if_pos (rt_nlt c_25)]
      exact ih (i + 1) (by omega) ls (by rw [e2, ← nI_1]; exact lv_sub hl [2, 3, 1, 0] rfl)
set_option maxHeartbeats 4000000 in
set_option maxRecDepth 100000 in
theorem c_X_linesAt (l : Launch) (dC : Nat → ClassId) (dI : Nat → Nat → Nat) (h0 a1 a2 sz : Nat) (k1 k2 : ClassId) (f g : Nat → Int32) (ent ret cnt per cng pnd msk sr sav tkn : Int32) (p1 : Int32) (en : Nat) (he : ent = nI en) (h32 : en ≤ 32) :
    Met l yX0_linesAt wsX0_linesAt ({ frames := 0, cells := 0, slots := 0, locals := 0 }) (va_Pc [.ref h0, .int p1] (rt_pre dC dI (rt_xw h0 a1 a2 k1 k2 f g ent ret cnt per cng pnd msk sr sav tkn) [(k1, .int), (k2, .int)] sz)) (va_Qi (fun (v : Int32) (u : Unit) => v = rt_pl f g p1 en) (rt_post dC dI [(k1, .int), (k2, .int)] (va_A (rt_xw h0 a1 a2 k1 k2 f g ent ret cnt per cng pnd msk sr sav tkn) sz) (fun (u : Unit) => rt_xw h0 a1 a2 k1 k2 f g ent ret cnt per cng pnd msk sr sav tkn)) (va_A (rt_xw h0 a1 a2 k1 k2 f g ent ret cnt per cng pnd msk sr sav tkn) sz)) 0 0 (va_A (rt_xw h0 a1 a2 k1 k2 f g ent ret cnt per cng pnd msk sr sav tkn) sz) := by
  subst he
  refine Met.ofW (cc := cX0_linesAt) (maxL := 4) (ret := (some .int)) (by decide) rfl ?_
  intro p e0 s m args below meth c s₁ B hml hv
  obtain ⟨rfl, hsz, hP, hK, hD0⟩ := hv
  have hx := B.exec
  have hb := B.bytes
  have hr := B.returns
  have hts := atoms_spec (ws := wsX0_linesAt) B.pre
  have hown : s.vm.findClass RX0 = some m.cls := findClass_of_methodNamed B.named
  have hlocks := B.notSynchronized
  subst hsz
  have hD := hD0.self (sz := s.heap.size)
  generalize hAe : va_A (rt_xw h0 a1 a2 k1 k2 f g (nI en) ret cnt per cng pnd msk sr sav tkn) s.heap.size = A at hD ⊢
  have hA : ∀ q : Nat, s.heap.size ≤ q → A q := fun q h => by rw [← hAe]; exact Or.inr h
  have hS : va_S A s.heap s.heap [] := va_S.rf
  have hP : va_P (dC, dI) vwCl (rt_xw h0 a1 a2 k1 k2 f g (nI en) ret cnt per cng pnd msk sr sav tkn) s.heap := hP
  have hl := lv_entry ([.ref h0, .int p1]) (n := 4) (Nat.le_of_ble_eq_true rfl)
  rw [lg_entry_eq]
  generalize (lg_sl ([.ref h0, .int p1]) ++ List.replicate (4 - (lg_sl ([.ref h0, .int p1])).length) Slot.unset).toArray = ls at hl ⊢
  have hl : lv_has ls 4 [(0, .ref h0), (1, .int p1)] := hl
  refine lv_iconst (v := 0) hx hb dX0_linesAt_0 (by decide) ?_
  refine lv_istore_n (lv' := [(2, .int 0), (0, .ref h0), (1, .int p1)]) hx hb dX0_linesAt_1 rfl hl (by decide) rfl (fun ls hl => ?_)
  refine lv_iconst (v := 0) hx hb dX0_linesAt_2 (by decide) ?_
  refine lv_istore_n (lv' := [(3, .int 0), (2, .int 0), (0, .ref h0), (1, .int p1)]) hx hb dX0_linesAt_3 rfl hl (by decide) rfl (fun ls hl => ?_)
  refine lp_X_linesAt hx hb hts hown hK hP h32 (fun ls hl => ?_) en 0 (by omega) ls (lv_sub hl [2, 3, 1, 0] rfl)
  refine lv_iload_n hx hb dX0_linesAt_41 rfl (lv_at hl 2 rfl) ?_
  exact W.iret (v := rt_pl f g p1 en) hx hb hr (fun t ht hW => ⟨⟨rt_pl f g p1 en, (), rfl, rfl, by rw [ht]; exact hP, va_K.moved hW.alike hK, hD⟩, hS.F ht⟩) hS.2.2 dX0_linesAt_42
