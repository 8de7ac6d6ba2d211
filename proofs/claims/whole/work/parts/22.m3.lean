set_option maxHeartbeats 4000000 in
set_option maxRecDepth 100000 in
theorem lp_M_steps {p : Program} {l : Launch} {e0 : Env} {R : Room} {s : State} {m : MethodId} {args : Array Value} {below : List Frame} {meth : Method} {c : Code} {Q : State → Prop} {dC : Nat → ClassId} {dI : Nat → Nat → Nat} {A : Nat → Prop} {h0 a1 a2 : Nat} {k1 k2 : ClassId} {f g : Nat → Int32} {cnt cng pnd msk sr sav tkn : Int32} {en rn pn N t : Nat} (hx : p.tables.exec = Jvm.exec) (hb : c.code = cX1_steps) (hts : ∀ w ∈ wsX1_steps, w.before args s = true) (hown : s.vm.findClass RX1 = some m.cls) (hml : c.maxLocals = 3) (hA : ∀ q : Nat, s.heap.size ≤ q → A q) (hRf : 2 ≤ R.frames) (hRl : 40 ≤ R.locals) (hK : va_K (dC, dI) vwCl [(k1, .int), (k2, .int)] s) (h32 : en ≤ 32) (hpl : pn < 268435456) (hs : rt_Srt f en) (hN : N ≤ 20000) (ht : t ≤ N) (hrt : rn + N < 2147483648)
    (hbef : ∀ d, d < t → rt_due sr (rt_cp cng (nI pn) cnt pnd (nI d)) (rt_pl f g (nI (rn + d)) en) msk = 0) (hat : t = N ∨ ¬ rt_due sr (rt_cp cng (nI pn) cnt pnd (nI t)) (rt_pl f g (nI (rn + t)) en) msk = 0)
    (kx : ∀ (k : Nat) (H : Heap) (locs : List Loc) (ls : Array Slot), rt_Come f en (rn + t) k → va_P (dC, dI) vwCl (rt_mw h0 a1 a2 k1 k2 f g (nI en) (nI (rn + t)) (rt_cc cng (nI pn) cnt (nI t)) (nI pn) cng (rt_cp cng (nI pn) cnt pnd (nI t)) msk sr sav tkn (nI k)) H → va_D A (rt_mw h0 a1 a2 k1 k2 f g (nI en) (nI (rn + t)) (rt_cc cng (nI pn) cnt (nI t)) (nI pn) cng (rt_cp cng (nI pn) cnt pnd (nI t)) msk sr sav tkn (nI k)) → va_S A s.heap H locs → lv_has ls 3 [(0, .ref h0), (1, .int (nI N)), (2, .int (nI t))] → W p l e0 R s m args below meth c H locs 0 0 Q (F0 m 54 ls [])) :
    ∀ (n d : Nat), d + n = t → ∀ (k : Nat) (H : Heap) (locs : List Loc) (ls : Array Slot), rt_Come f en (rn + d) k → va_P (dC, dI) vwCl (rt_mw h0 a1 a2 k1 k2 f g (nI en) (nI (rn + d)) (rt_cc cng (nI pn) cnt (nI d)) (nI pn) cng (rt_cp cng (nI pn) cnt pnd (nI d)) msk sr sav tkn (nI k)) H → va_D A (rt_mw h0 a1 a2 k1 k2 f g (nI en) (nI (rn + d)) (rt_cc cng (nI pn) cnt (nI d)) (nI pn) cng (rt_cp cng (nI pn) cnt pnd (nI d)) msk sr sav tkn (nI k)) → va_S A s.heap H locs → lv_has ls 3 [(0, .ref h0), (1, .int (nI N)), (2, .int (nI d))] → W p l e0 R s m args below meth c H locs 0 0 Q (F0 m 32 ls []) := by
  intro n
  induction n with
  | zero =>
    intro d hd k H locs ls hc hP hD hS hl
    have hde : d = t := by omega
    subst hde
    refine lv_iload_n hx hb dX1_steps_32 rfl (lv_at hl 2 rfl) ?_
    refine lv_iload_n hx hb dX1_steps_33 rfl (lv_at hl 1 rfl) ?_
    refine lv_icmp_ge (tgt := 54) hx hb dX1_steps_34 (by decide) (fun c_34 => ?_) (fun c_34 => ?_)
    · exact kx k H locs ls hc hP hD hS hl
    · refine lv_aload_n hx hb dX1_steps_37 rfl (lv_at hl 0 rfl) ?_
      have hFc := va_free (wc := rt_mw h0 a1 a2 k1 k2 f g (nI en) (nI (rn + d)) (rt_cc cng (nI pn) cnt (nI d)) (nI pn) cng (rt_cp cng (nI pn) cnt pnd (nI d)) msk sr sav tkn (nI k)) hD hS hA [0, 1, 2] rfl
      refine va_calli (va_runV (As := []) (rest := []) ⟨hx, hb, hml, hown, hts⟩ (c_M_due l dC dI h0 a1 a2 H.size k1 k2 f g (nI en) (nI (rn + d)) (rt_cc cng (nI pn) cnt (nI d)) (nI pn) cng (rt_cp cng (nI pn) cnt pnd (nI d)) msk sr sav tkn (nI k) k rfl (by have := hc.1; omega)) (cwV 0 hts gX1_steps_X1_due rfl rfl rfl (by decide +kernel) ⟨hRf, hRl⟩) ⟨fun a U g mk q => by obtain ⟨q0, q1, qP, qK, qD⟩ := q; exact ⟨q0, q1, qP, va_K.moved (u := U) (U := U.calling g mk a) (Vm.Alike.refl U.vm) qK, qD⟩, va_recv hK hP (ci := 1) (q0 := 0) rfl rfl, fun U hU hW => ⟨rfl, by rw [hU], by rw [hU]; exact hP, va_K.moved hW.alike hK, hD.weaken (fun _ _ _ _ => trivial)⟩⟩ rfl rfl hl.1 rfl (lv_room (Nat.le_of_ble_eq_true rfl)) dX1_steps_38 ⟨Nat.zero_le _, Nat.zero_le _⟩) hS (fun q _ h => hFc q h) hFc (fun r_38 u t H1 locs ht hvm hw_38 hB hz1 hk1 hS => ?_)
      obtain ⟨hP1, hK1, hD1⟩ := hB
      rw [ht] at hP1
      try dsimp only at hw_38 hP1 hD1
      obtain ⟨hP, hD⟩ := va_join (wr := []) (w1 := rt_mw h0 a1 a2 k1 k2 f g (nI en) (nI (rn + d)) (rt_cc cng (nI pn) cnt (nI d)) (nI pn) cng (rt_cp cng (nI pn) cnt pnd (nI d)) msk sr sav tkn (nI k)) hP hD [0, 1, 2] [] rfl rfl (by decide) (by decide) hk1 hFc hP1 hD1
      generalize H1 = H at hP hS ⊢
      have hP : va_P (dC, dI) vwCl (rt_mw h0 a1 a2 k1 k2 f g (nI en) (nI (rn + d)) (rt_cc cng (nI pn) cnt (nI d)) (nI pn) cng (rt_cp cng (nI pn) cnt pnd (nI d)) msk sr sav tkn (nI k)) H := hP
      have hD : va_D A (rt_mw h0 a1 a2 k1 k2 f g (nI en) (nI (rn + d)) (rt_cc cng (nI pn) cnt (nI d)) (nI pn) cng (rt_cp cng (nI pn) cnt pnd (nI d)) msk sr sav tkn (nI k)) := hD
      refine lv_if_ne (tgt := 54) hx hb dX1_steps_41 (by decide) (fun c_41 => ?_) (fun c_41 => absurd (hw_38.symm.trans c_41) (by rw [← rt_pl_now hc]; exact hat.resolve_left (fun h => c_34 (nI_le (by omega) (by omega)))))
      exact kx k H locs ls hc hP hD hS hl
  | succ n ih =>
    intro d hd k H locs ls hc hP hD hS hl
    refine lv_iload_n hx hb dX1_steps_32 rfl (lv_at hl 2 rfl) ?_
    refine lv_iload_n hx hb dX1_steps_33 rfl (lv_at hl 1 rfl) ?_
    refine lv_icmp_ge (tgt := 54) hx hb dX1_steps_34 (by decide) (fun c_34 => absurd c_34 (nI_ge (by omega) (by omega))) (fun c_34 => ?_)
    refine lv_aload_n hx hb dX1_steps_37 rfl (lv_at hl 0 rfl) ?_
    have hFc := va_free (wc := rt_mw h0 a1 a2 k1 k2 f g (nI en) (nI (rn + d)) (rt_cc cng (nI pn) cnt (nI d)) (nI pn) cng (rt_cp cng (nI pn) cnt pnd (nI d)) msk sr sav tkn (nI k)) hD hS hA [0, 1, 2] rfl
    refine va_calli (va_runV (As := []) (rest := []) ⟨hx, hb, hml, hown, hts⟩ (c_M_due l dC dI h0 a1 a2 H.size k1 k2 f g (nI en) (nI (rn + d)) (rt_cc cng (nI pn) cnt (nI d)) (nI pn) cng (rt_cp cng (nI pn) cnt pnd (nI d)) msk sr sav tkn (nI k) k rfl (by have := hc.1; omega)) (cwV 0 hts gX1_steps_X1_due rfl rfl rfl (by decide +kernel) ⟨hRf, hRl⟩) ⟨fun a U g mk q => by obtain ⟨q0, q1, qP, qK, qD⟩ := q; exact ⟨q0, q1, qP, va_K.moved (u := U) (U := U.calling g mk a) (Vm.Alike.refl U.vm) qK, qD⟩, va_recv hK hP (ci := 1) (q0 := 0) rfl rfl, fun U hU hW => ⟨rfl, by rw [hU], by rw [hU]; exact hP, va_K.moved hW.alike hK, hD.weaken (fun _ _ _ _ => trivial)⟩⟩ rfl rfl hl.1 rfl (lv_room (Nat.le_of_ble_eq_true rfl)) dX1_steps_38 ⟨Nat.zero_le _, Nat.zero_le _⟩) hS (fun q _ h => hFc q h) hFc (fun r_38 u t H1 locs ht hvm hw_38 hB hz1 hk1 hS => ?_)
    obtain ⟨hP1, hK1, hD1⟩ := hB
    rw [ht] at hP1
    try dsimp only at hw_38 hP1 hD1
    obtain ⟨hP, hD⟩ := va_join (wr := []) (w1 := rt_mw h0 a1 a2 k1 k2 f g (nI en) (nI (rn + d)) (rt_cc cng (nI pn) cnt (nI d)) (nI pn) cng (rt_cp cng (nI pn) cnt pnd (nI d)) msk sr sav tkn (nI k)) hP hD [0, 1, 2] [] rfl rfl (by decide) (by decide) hk1 hFc hP1 hD1
    generalize H1 = H at hP hS ⊢
    have hP : va_P (dC, dI) vwCl (rt_mw h0 a1 a2 k1 k2 f g (nI en) (nI (rn + d)) (rt_cc cng (nI pn) cnt (nI d)) (nI pn) cng (rt_cp cng (nI pn) cnt pnd (nI d)) msk sr sav tkn (nI k)) H := hP
    have hD : va_D A (rt_mw h0 a1 a2 k1 k2 f g (nI en) (nI (rn + d)) (rt_cc cng (nI pn) cnt (nI d)) (nI pn) cng (rt_cp cng (nI pn) cnt pnd (nI d)) msk sr sav tkn (nI k)) := hD
    refine lv_if_ne (tgt := 54) hx hb dX1_steps_41 (by decide) (fun c_41 => absurd (hw_38.trans (by rw [← rt_pl_now hc]; exact hbef d (by omega))) c_41) (fun c_41 => ?_)
    refine lv_aload_n hx hb dX1_steps_44 rfl (lv_at hl 0 rfl) ?_
    have hFc := va_free (wc := rt_mw h0 a1 a2 k1 k2 f g (nI en) (nI (rn + d)) (rt_cc cng (nI pn) cnt (nI d)) (nI pn) cng (rt_cp cng (nI pn) cnt pnd (nI d)) msk sr sav tkn (nI k)) hD hS hA [0, 1, 2] rfl
    refine va_callv (va_runV (As := []) (rest := []) ⟨hx, hb, hml, hown, hts⟩ (c_M_step l dC dI h0 a1 a2 H.size k1 k2 f g (nI en) (nI (rn + d)) (rt_cc cng (nI pn) cnt (nI d)) (nI pn) cng (rt_cp cng (nI pn) cnt pnd (nI d)) msk sr sav tkn (nI k) en (rn + d) k rfl h32 rfl rfl (by omega) hs hc) (cwV 0 hts gX1_steps_X1_step rfl rfl rfl (by decide +kernel) ⟨hRf, hRl⟩) ⟨fun a U g mk q => by obtain ⟨q0, q1, qP, qK, qD⟩ := q; exact ⟨q0, q1, qP, va_K.moved (u := U) (U := U.calling g mk a) (Vm.Alike.refl U.vm) qK, qD⟩, va_recv hK hP (ci := 1) (q0 := 0) rfl rfl, fun U hU hW => ⟨rfl, by rw [hU], by rw [hU]; exact hP, va_K.moved hW.alike hK, hD.weaken (fun _ _ _ _ => trivial)⟩⟩ rfl rfl hl.1 rfl (lv_room (Nat.le_of_ble_eq_true rfl)) dX1_steps_45 ⟨Nat.zero_le _, Nat.zero_le _⟩) hS (fun q _ h => hFc q h) hFc (fun u t H1 locs ht hvm hw_45 hB hz1 hk1 hS => ?_)
    obtain ⟨ret_45, cnt_45, pnd_45, com_45⟩ := u
    obtain ⟨hP1, hK1, hD1⟩ := hB
    rw [ht] at hP1
    try dsimp only at hw_45 hP1 hD1
    obtain ⟨hP, hD⟩ := va_join (wr := []) (w1 := rt_mw h0 a1 a2 k1 k2 f g (nI en) ret_45 cnt_45 (nI pn) cng pnd_45 msk sr sav tkn (nI com_45)) hP hD [0, 1, 2] [] rfl rfl (by decide) (by decide) hk1 hFc hP1 hD1
    generalize H1 = H at hP hS ⊢
    have hP : va_P (dC, dI) vwCl (rt_mw h0 a1 a2 k1 k2 f g (nI en) ret_45 cnt_45 (nI pn) cng pnd_45 msk sr sav tkn (nI com_45)) H := hP
    have hD : va_D A (rt_mw h0 a1 a2 k1 k2 f g (nI en) ret_45 cnt_45 (nI pn) cng pnd_45 msk sr sav tkn (nI com_45)) := hD
    obtain ⟨h1, h2, h3, h4⟩ := hw_45
    have hcs := rt_cs (t := d) cng cnt pnd hpl (by omega)
    have h2 := h2.trans hcs.1.symm
    have h3 := h3.trans hcs.2.symm
    subst h1
    subst h2
    subst h3
    refine lv_iinc (v := (nI d) + 1) (lv' := [(2, .int ((nI d) + 1)), (0, .ref h0), (1, .int (nI N))]) hx hb dX1_steps_48 hl (k := 2) rfl rfl (by decide) rfl (fun ls hl => ?_)
    refine lv_goto (tgt := 32) hx hb dX1_steps_51 (by decide) ?_
    exact ih (d + 1) (by omega) com_45 H locs ls h4 hP hD hS (by rw [← nI_1]; exact lv_sub hl [1, 2, 0] rfl)
set_option maxHeartbeats 4000000 in
set_option maxRecDepth 100000 in
theorem c_M_steps (l : Launch) (dC : Nat → ClassId) (dI : Nat → Nat → Nat) (h0 a1 a2 sz : Nat) (k1 k2 : ClassId) (f g : Nat → Int32) (ent ret cnt per cng pnd msk sr sav tkn com : Int32) (p1 : Int32) (en rn kn pn : Nat) (he : ent = nI en) (h32 : en ≤ 32) (hrn : ret = nI rn) (hk : com = nI kn) (hpn : per = nI pn) (hrl : rn < 2147483648) (hpl : pn < 268435456) (hs : rt_Srt f en) (hc : rt_Come f en rn kn) :
    Met l yX1_steps wsX1_steps ({ frames := 2, cells := 0, slots := 0, locals := 40 }) (va_Pc [.ref h0, .int p1] (rt_pre dC dI (rt_mw h0 a1 a2 k1 k2 f g ent ret cnt per cng pnd msk sr sav tkn com) [(k1, .int), (k2, .int)] sz)) (va_Qi (fun (v : Int32) (u : Int32 × Int32 × Int32 × Nat) => v = rt_ans f g en rn cnt per cng pnd msk sr p1 ∧ u.1 = nI (rn + rt_tn f g en rn cnt per cng pnd msk sr p1) ∧ u.2.1 = rt_cc cng per cnt (nI (rt_tn f g en rn cnt per cng pnd msk sr p1)) ∧ u.2.2.1 = rt_cp cng per cnt pnd (nI (rt_tn f g en rn cnt per cng pnd msk sr p1)) ∧ rt_Come f en (rn + rt_tn f g en rn cnt per cng pnd msk sr p1) u.2.2.2) (rt_post dC dI [(k1, .int), (k2, .int)] (va_A (rt_mw h0 a1 a2 k1 k2 f g ent ret cnt per cng pnd msk sr sav tkn com) sz) (fun (u : Int32 × Int32 × Int32 × Nat) => rt_mw h0 a1 a2 k1 k2 f g ent u.1 u.2.1 per cng u.2.2.1 msk sr sav tkn (nI u.2.2.2))) (va_A (rt_mw h0 a1 a2 k1 k2 f g ent ret cnt per cng pnd msk sr sav tkn com) sz)) 0 0 (va_A (rt_mw h0 a1 a2 k1 k2 f g ent ret cnt per cng pnd msk sr sav tkn com) sz) := by
  subst he
  subst hrn
  subst hk
  subst hpn
  refine Met.ofW (cc := cX1_steps) (maxL := 3) (ret := (some .int)) (by decide) rfl ?_
  intro p e0 s m args below meth c s₁ B hml hv
  obtain ⟨rfl, hsz, hP, hK, hD0⟩ := hv
  have hx := B.exec
  have hb := B.bytes
  have hr := B.returns
  have hts := atoms_spec (ws := wsX1_steps) B.pre
  have hown : s.vm.findClass RX1 = some m.cls := findClass_of_methodNamed B.named
  have hlocks := B.notSynchronized
  subst hsz
  have hD := hD0.self (sz := s.heap.size)
  generalize hAe : va_A (rt_mw h0 a1 a2 k1 k2 f g (nI en) (nI rn) cnt (nI pn) cng pnd msk sr sav tkn (nI kn)) s.heap.size = A at hD ⊢
  have hA : ∀ q : Nat, s.heap.size ≤ q → A q := fun q h => by rw [← hAe]; exact Or.inr h
  have hS : va_S A s.heap s.heap [] := va_S.rf
  have hP : va_P (dC, dI) vwCl (rt_mw h0 a1 a2 k1 k2 f g (nI en) (nI rn) cnt (nI pn) cng pnd msk sr sav tkn (nI kn)) s.heap := hP
  have hl := lv_entry ([.ref h0, .int p1]) (n := 3) (Nat.le_of_ble_eq_true rfl)
  rw [lg_entry_eq]
  generalize (lg_sl ([.ref h0, .int p1]) ++ List.replicate (3 - (lg_sl ([.ref h0, .int p1])).length) Slot.unset).toArray = ls at hl ⊢
  have hl : lv_has ls 3 [(0, .ref h0), (1, .int p1)] := hl
  refine lv_aload_n hx hb dX1_steps_0 rfl (lv_at hl 0 rfl) ?_
  refine lv_iconst (v := 0) hx hb dX1_steps_1 (by decide) ?_
  refine va_put (D := (dC, dI)) (ci := 1) (v := .int 0) (ty := .int) (C := RX1) (T := TX1) (N := 14) hx hb hts (fun _ h => List.mem_cons_of_mem _ (List.mem_append_right _ h)) tyX1 tyX1_ok nmX1 hown hK hP hD hS 0 rfl rfl 0 (by decide) (hts (.fieldLink RX1 20 "RetiredTimerModel" "thrown" "I") (by decide +kernel)) (fun _ h9 => h9) rfl (by decide +kernel) rfl rfl (Nat.le_of_ble_eq_true rfl) dX1_steps_2 (fun H locs hP hD hS => ?_)
  have hP : va_P (dC, dI) vwCl (rt_mw h0 a1 a2 k1 k2 f g (nI en) (nI rn) cnt (nI pn) cng pnd msk sr sav tkn (nI kn)) H := hP
  have hD : va_D A (rt_mw h0 a1 a2 k1 k2 f g (nI en) (nI rn) cnt (nI pn) cng pnd msk sr sav tkn (nI kn)) := hD
  refine lv_iload_n hx hb dX1_steps_5 rfl (lv_at hl 1 rfl) ?_
  refine lv_iconst (v := 1) hx hb dX1_steps_6 (by decide) ?_
  refine lv_icmp_lt (tgt := 28) hx hb dX1_steps_7 (by decide) (fun c_7 => ?_) (fun c_7 => ?_)
  · refine lv_iconst (v := -1) hx hb dX1_steps_28 (by decide) ?_
    have hbad : p1 < 1 ∨ 20000 < p1 ∨ 2147483647 - nI rn < p1 := (Or.inl c_7)
    have hrf := rt_refuse (f := f) (g := g) (e := en) (cnt := cnt) (cng := cng) (pnd := pnd) (msk := msk) (sr := sr) hpl hbad
    exact W.iret (v := (-1)) hx hb hr (fun t ht hW => ⟨⟨(-1), ((nI rn), cnt, pnd, kn), rfl, ⟨hrf.1, hrf.2.1, hrf.2.2.1, hrf.2.2.2, by rw [show rt_tn f g en rn cnt (nI pn) cng pnd msk sr p1 = 0 from if_pos hbad]; exact hc⟩, by rw [ht]; exact hP, va_K.moved hW.alike hK, hD⟩, hS.F ht⟩) hS.2.2 dX1_steps_29
  · refine lv_iload_n hx hb dX1_steps_10 rfl (lv_at hl 1 rfl) ?_
    refine lv_sipush (v := 20000) hx hb dX1_steps_11 (by decide) ?_
    refine lv_icmp_gt (tgt := 28) hx hb dX1_steps_14 (by decide) (fun c_14 => ?_) (fun c_14 => ?_)
    · refine lv_iconst (v := -1) hx hb dX1_steps_28 (by decide) ?_
      have hbad : p1 < 1 ∨ 20000 < p1 ∨ 2147483647 - nI rn < p1 := (Or.inr (Or.inl c_14))
      have hrf := rt_refuse (f := f) (g := g) (e := en) (cnt := cnt) (cng := cng) (pnd := pnd) (msk := msk) (sr := sr) hpl hbad
      exact W.iret (v := (-1)) hx hb hr (fun t ht hW => ⟨⟨(-1), ((nI rn), cnt, pnd, kn), rfl, ⟨hrf.1, hrf.2.1, hrf.2.2.1, hrf.2.2.2, by rw [show rt_tn f g en rn cnt (nI pn) cng pnd msk sr p1 = 0 from if_pos hbad]; exact hc⟩, by rw [ht]; exact hP, va_K.moved hW.alike hK, hD⟩, hS.F ht⟩) hS.2.2 dX1_steps_29
    · refine lv_aload_n hx hb dX1_steps_17 rfl (lv_at hl 0 rfl) ?_
      refine va_get (D := (dC, dI)) (ci := 1) (v := .int (nI rn)) (C := RX1) (T := TX1) (N := 14) hx hb hts (fun _ h => List.mem_cons_of_mem _ (List.mem_append_right _ h)) hown hK hP 0 rfl rfl 1 (by decide) (hts (.fieldLink RX1 29 "RetiredTimerModel" "retired" "I") (by decide +kernel)) (fun _ h9 => h9) rfl dX1_steps_18 ?_
      refine lv_ldc (v := 2147483647) hx hb hown (hts (.constant RX1 55 2147483647) (by decide +kernel)) dX1_steps_21 ?_
      refine lv_iload_n hx hb dX1_steps_23 rfl (lv_at hl 1 rfl) ?_
      refine lv_isub hx hb dX1_steps_24 ?_
      refine lv_icmp_le (tgt := 30) hx hb dX1_steps_25 (by decide) (fun c_25 => ?_) (fun c_25 => ?_)
      · refine lv_iconst (v := 0) hx hb dX1_steps_30 (by decide) ?_
        refine lv_istore_n (lv' := [(2, .int 0), (0, .ref h0), (1, .int p1)]) hx hb dX1_steps_31 rfl hl (by decide) rfl (fun ls hl => ?_)
        have hok : ¬ (p1 < 1 ∨ 20000 < p1 ∨ 2147483647 - nI rn < p1) := rt_okM hrl c_7 c_14 c_25
        obtain ⟨N, tt, hN, hN2, hN3, ht1, ht2, ht3, ht4, ht5⟩ := rt_tn_spec (g := g) (cnt := cnt) (cng := cng) (pnd := pnd) (msk := msk) (sr := sr) hrl hpl hs.2 hok
        subst hN
        have h00 := rt_c0 cng cnt pnd hpl
        refine lp_M_steps (f := f) (g := g) (cnt := cnt) (cng := cng) (pnd := pnd) (msk := msk) (sr := sr) (N := N) (t := tt) hx hb hts hown hml hA (Nat.le_of_ble_eq_true rfl) (Nat.le_of_ble_eq_true rfl) hK h32 hpl hs hN2 ht1 hN3 (fun d hd => rt_before hs hpl (by omega) (by omega)) (ht5.imp id (fun h => rt_reached hs hpl (by omega) h)) (fun k H locs ls hc hP hD hS hl => ?_) tt 0 (by omega) kn _ _ ls hc (by rw [h00.1, h00.2]; exact hP) (by rw [h00.1, h00.2]; exact hD) hS (lv_sub hl [1, 2, 0] rfl)
        refine lv_iload_n hx hb dX1_steps_54 rfl (lv_at hl 2 rfl) ?_
        exact W.iret (v := nI tt) hx hb hr (fun t ht hW => ⟨⟨nI tt, ((nI (rn + tt)), (rt_cc cng (nI pn) cnt (nI tt)), (rt_cp cng (nI pn) cnt pnd (nI tt)), k), rfl, ⟨by unfold rt_ans; rw [if_neg hok, ht2], by rw [ht2], by rw [ht2], by rw [ht2], by rw [ht2]; exact hc⟩, by rw [ht]; exact hP, va_K.moved hW.alike hK, hD⟩, hS.F ht⟩) hS.2.2 dX1_steps_55
      · refine lv_iconst (v := -1) hx hb dX1_steps_28 (by decide) ?_
        have hbad : p1 < 1 ∨ 20000 < p1 ∨ 2147483647 - nI rn < p1 := (rt_badM hrl c_7 c_14 c_25)
        have hrf := rt_refuse (f := f) (g := g) (e := en) (cnt := cnt) (cng := cng) (pnd := pnd) (msk := msk) (sr := sr) hpl hbad
        exact W.iret (v := (-1)) hx hb hr (fun t ht hW => ⟨⟨(-1), ((nI rn), cnt, pnd, kn), rfl, ⟨hrf.1, hrf.2.1, hrf.2.2.1, hrf.2.2.2, by rw [show rt_tn f g en rn cnt (nI pn) cng pnd msk sr p1 = 0 from if_pos hbad]; exact hc⟩, by rw [ht]; exact hP, va_K.moved hW.alike hK, hD⟩, hS.F ht⟩) hS.2.2 dX1_steps_29
