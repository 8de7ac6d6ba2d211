set_option maxHeartbeats 4000000 in
set_option maxRecDepth 100000 in
theorem lp_M_until {p : Program} {l : Launch} {e0 : Env} {R : Room} {s : State} {m : MethodId} {args : Array Value} {below : List Frame} {meth : Method} {c : Code} {Q : State → Prop} {dC : Nat → ClassId} {dI : Nat → Nat → Nat} {h0 a1 a2 : Nat} {k1 k2 : ClassId} {H : Heap} {locs : List Loc} {f g : Nat → Int32} {cnt per cng pnd msk sr sav tkn : Int32} {en rn kn : Nat} {Z : Int64} (hx : p.tables.exec = Jvm.exec) (hb : c.code = cX1_until) (hts : ∀ w ∈ wsX1_until, w.before args s = true) (hown : s.vm.findClass RX1 = some m.cls) (hK : va_K (dC, dI) vwCl [(k1, .int), (k2, .int)] s) (hP : va_P (dC, dI) vwCl (rt_mw h0 a1 a2 k1 k2 f g (nI en) (nI rn) cnt per cng pnd msk sr sav tkn (nI kn)) H) (h32 : en ≤ 32) (h4 : ¬ sr &&& 4 = 0)
    (kx : ∀ (ls : Array Slot), lv_has ls 6 [(0, .ref h0), (1, .long Z)] → W p l e0 R s m args below meth c H locs 0 0 Q (F0 m 135 ls [])) :
    ∀ (n : Nat) (acc : Int64), kn + n ≤ en → rt_ml f g (nI rn) msk kn n acc = Z → ∀ (ls : Array Slot), lv_has ls 6 [(0, .ref h0), (1, .long acc), (3, .int (nI (kn + n) - 1))] → W p l e0 R s m args below meth c H locs 0 0 Q (F0 m 69 ls []) := by
  intro n
  induction n with
  | zero =>
    intro acc hn hq ls hl
    have hq : acc = Z := hq
    subst hq
    refine lv_iload_n hx hb dX1_until_69 rfl (lv_at hl 2 rfl) ?_
    refine lv_aload_n hx hb dX1_until_70 rfl (lv_at hl 0 rfl) ?_
    refine va_get (D := (dC, dI)) (ci := 1) (v := .int (nI kn)) (C := RX1) (T := TX1) (N := 14) hx hb hts (fun _ h => List.mem_cons_of_mem _ (List.mem_append_right _ h)) hown hK hP 0 rfl rfl 13 (by decide) (hts (.fieldLink RX1 23 "RetiredTimerModel" "come" "I") (by decide +kernel)) (fun _ h9 => h9) rfl dX1_until_71 ?_
    refine lv_icmp_lt (tgt := 135) hx hb dX1_until_74 (by decide) (fun c_74 => ?_) (fun c_74 => absurd (rt_ltself (by omega)) c_74)
    exact kx ls (lv_sub hl [0, 1] rfl)
  | succ n ih =>
    intro acc hn hq ls hl
    have hl : lv_has ls 6 [(0, .ref h0), (1, .long acc), (3, .int (nI (kn + n)))] := by rw [← nI_pred]; exact hl
    refine lv_iload_n hx hb dX1_until_69 rfl (lv_at hl 2 rfl) ?_
    refine lv_aload_n hx hb dX1_until_70 rfl (lv_at hl 0 rfl) ?_
    refine va_get (D := (dC, dI)) (ci := 1) (v := .int (nI kn)) (C := RX1) (T := TX1) (N := 14) hx hb hts (fun _ h => List.mem_cons_of_mem _ (List.mem_append_right _ h)) hown hK hP 0 rfl rfl 13 (by decide) (hts (.fieldLink RX1 23 "RetiredTimerModel" "come" "I") (by decide +kernel)) (fun _ h9 => h9) rfl dX1_until_71 ?_
    refine lv_icmp_lt (tgt := 135) hx hb dX1_until_74 (by decide) (fun c_74 => absurd c_74 (nI_nlt (by omega) (by omega))) (fun c_74 => ?_)
    refine lv_aload_n hx hb dX1_until_77 rfl (lv_at hl 0 rfl) ?_
    refine va_get (D := (dC, dI)) (ci := 1) (v := .int sr) (C := RX1) (T := TX1) (N := 14) hx hb hts (fun _ h => List.mem_cons_of_mem _ (List.mem_append_right _ h)) hown hK hP 0 rfl rfl 7 (by decide) (hts (.fieldLink RX1 7 "RetiredTimerModel" "sr" "I") (by decide +kernel)) (fun _ h9 => h9) rfl dX1_until_78 ?_
    refine lv_iconst (v := 4) hx hb dX1_until_81 (by decide) ?_
    refine lv_iand hx hb dX1_until_82 ?_
    refine lv_if_eq (tgt := 135) hx hb dX1_until_83 (by decide) (fun c_83 => absurd c_83 h4) (fun c_83 => ?_)
    refine lv_aload_n hx hb dX1_until_86 rfl (lv_at hl 0 rfl) ?_
    refine va_get (D := (dC, dI)) (ci := 1) (v := .ref a1) (C := RX1) (T := TX1) (N := 14) hx hb hts (fun _ h => List.mem_cons_of_mem _ (List.mem_append_right _ h)) hown hK hP 0 rfl rfl 10 (by decide) (hts (.fieldLink RX1 13 "RetiredTimerModel" "counts" "[I") (by decide +kernel)) (fun _ h9 => h9) rfl dX1_until_87 ?_
    refine lv_iload_n hx hb dX1_until_90 rfl (lv_at hl 2 rfl) ?_
    refine va_iald hx hb hK hP 1 0 rfl rfl (vp_in_nI (N := 32) (by omega) (by decide)) dX1_until_91 ?_
    rw [show f (nI (kn + n)).toNatClampNeg = f (kn + n) from by rw [nI_clamp (by omega)]]
    refine lv_i2l (v := (f (kn + n)).toInt64) hx hb dX1_until_92 rfl ?_
    refine lv_aload_n hx hb dX1_until_93 rfl (lv_at hl 0 rfl) ?_
    refine va_get (D := (dC, dI)) (ci := 1) (v := .int (nI rn)) (C := RX1) (T := TX1) (N := 14) hx hb hts (fun _ h => List.mem_cons_of_mem _ (List.mem_append_right _ h)) hown hK hP 0 rfl rfl 1 (by decide) (hts (.fieldLink RX1 29 "RetiredTimerModel" "retired" "I") (by decide +kernel)) (fun _ h9 => h9) rfl dX1_until_94 ?_
    refine lv_i2l (v := (nI rn).toInt64) hx hb dX1_until_97 rfl ?_
    refine lv_lsub hx hb dX1_until_98 ?_
    refine lv_lstore (lv' := [(4, .long (((f (kn + n)).toInt64) - ((nI rn).toInt64))), (0, .ref h0), (1, .long acc), (3, .int (nI (kn + n)))]) hx hb dX1_until_99 hl (by decide) rfl (fun ls hl => ?_)
    refine lv_aload_n hx hb dX1_until_101 rfl (lv_at hl 1 rfl) ?_
    refine va_get (D := (dC, dI)) (ci := 1) (v := .ref a2) (C := RX1) (T := TX1) (N := 14) hx hb hts (fun _ h => List.mem_cons_of_mem _ (List.mem_append_right _ h)) hown hK hP 0 rfl rfl 11 (by decide) (hts (.fieldLink RX1 17 "RetiredTimerModel" "values" "[I") (by decide +kernel)) (fun _ h9 => h9) rfl dX1_until_102 ?_
    refine lv_iload_n hx hb dX1_until_105 rfl (lv_at hl 3 rfl) ?_
    refine va_iald hx hb hK hP 2 1 rfl rfl (vp_in_nI (N := 32) (by omega) (by decide)) dX1_until_106 ?_
    rw [show g (nI (kn + n)).toNatClampNeg = g (kn + n) from by rw [nI_clamp (by omega)]]
    refine lv_aload_n hx hb dX1_until_107 rfl (lv_at hl 1 rfl) ?_
    refine va_get (D := (dC, dI)) (ci := 1) (v := .int msk) (C := RX1) (T := TX1) (N := 14) hx hb hts (fun _ h => List.mem_cons_of_mem _ (List.mem_append_right _ h)) hown hK hP 0 rfl rfl 6 (by decide) (hts (.fieldLink RX1 40 "RetiredTimerModel" "mask" "I") (by decide +kernel)) (fun _ h9 => h9) rfl dX1_until_108 ?_
    refine lv_iand hx hb dX1_until_111 ?_
    refine lv_if_eq (tgt := 127) hx hb dX1_until_112 (by decide) (fun c_112 => ?_) (fun c_112 => ?_)
    · refine lv_lload_n hx hb dX1_until_127 rfl (lv_at hl 2 rfl) ?_
      refine lv_lstore_n (lv' := [(1, .long acc), (4, .long (((f (kn + n)).toInt64) - ((nI rn).toInt64))), (0, .ref h0), (3, .int (nI (kn + n)))]) hx hb dX1_until_128 rfl hl (by decide) rfl (fun ls hl => ?_)
      refine lv_iinc (v := (nI (kn + n)) + (-1)) (lv' := [(3, .int ((nI (kn + n)) + (-1))), (1, .long acc), (4, .long (((f (kn + n)).toInt64) - ((nI rn).toInt64))), (0, .ref h0)]) hx hb dX1_until_129 hl (k := 3) rfl rfl (by decide) rfl (fun ls hl => ?_)
      refine lv_goto (tgt := 69) hx hb dX1_until_132 (by decide) ?_
      have e2 : rt_ml f g (nI rn) msk kn n (acc) = Z := by rw [← hq]; simp only [rt_ml]; rw [if_neg (fun h => h.1 c_112)]
      exact ih (acc) (by omega) e2 ls (by rw [Int32.sub_eq_add_neg]; exact lv_sub hl [3, 1, 0] rfl)
    · refine lv_lload hx hb dX1_until_115 (lv_at hl 0 rfl) ?_
      refine lv_lload_n hx hb dX1_until_117 rfl (lv_at hl 2 rfl) ?_
      refine W.lcmp hx hb dX1_until_118 ?_
      refine lv_if_ge (tgt := 127) hx hb dX1_until_119 (by decide) (fun c_119 => ?_) (fun c_119 => ?_)
      · refine lv_lload_n hx hb dX1_until_127 rfl (lv_at hl 2 rfl) ?_
        refine lv_lstore_n (lv' := [(1, .long acc), (4, .long (((f (kn + n)).toInt64) - ((nI rn).toInt64))), (0, .ref h0), (3, .int (nI (kn + n)))]) hx hb dX1_until_128 rfl hl (by decide) rfl (fun ls hl => ?_)
        refine lv_iinc (v := (nI (kn + n)) + (-1)) (lv' := [(3, .int ((nI (kn + n)) + (-1))), (1, .long acc), (4, .long (((f (kn + n)).toInt64) - ((nI rn).toInt64))), (0, .ref h0)]) hx hb dX1_until_129 hl (k := 3) rfl rfl (by decide) rfl (fun ls hl => ?_)
        refine lv_goto (tgt := 69) hx hb dX1_until_132 (by decide) ?_
        have e2 : rt_ml f g (nI rn) msk kn n (acc) = Z := by rw [← hq]; simp only [rt_ml]; rw [if_neg (fun h => rt_geL ((lg_cmp_ge _ _).mp c_119) h.2)]
        exact ih (acc) (by omega) e2 ls (by rw [Int32.sub_eq_add_neg]; exact lv_sub hl [3, 1, 0] rfl)
      · refine lv_lload hx hb dX1_until_122 (lv_at hl 0 rfl) ?_
        refine lv_goto (tgt := 128) hx hb dX1_until_124 (by decide) ?_
        refine lv_lstore_n (lv' := [(1, .long (((f (kn + n)).toInt64) - ((nI rn).toInt64))), (4, .long (((f (kn + n)).toInt64) - ((nI rn).toInt64))), (0, .ref h0), (3, .int (nI (kn + n)))]) hx hb dX1_until_128 rfl hl (by decide) rfl (fun ls hl => ?_)
        refine lv_iinc (v := (nI (kn + n)) + (-1)) (lv' := [(3, .int ((nI (kn + n)) + (-1))), (1, .long (((f (kn + n)).toInt64) - ((nI rn).toInt64))), (4, .long (((f (kn + n)).toInt64) - ((nI rn).toInt64))), (0, .ref h0)]) hx hb dX1_until_129 hl (k := 3) rfl rfl (by decide) rfl (fun ls hl => ?_)
        refine lv_goto (tgt := 69) hx hb dX1_until_132 (by decide) ?_
        have e2 : rt_ml f g (nI rn) msk kn n (((f (kn + n)).toInt64) - ((nI rn).toInt64)) = Z := by rw [← hq]; simp only [rt_ml]; rw [if_pos ⟨c_112, rt_nleL (fun h => c_119 ((lg_cmp_ge _ _).mpr h))⟩]
        exact ih (((f (kn + n)).toInt64) - ((nI rn).toInt64)) (by omega) e2 ls (by rw [Int32.sub_eq_add_neg]; exact lv_sub hl [3, 1, 0] rfl)
set_option maxHeartbeats 4000000 in
set_option maxRecDepth 100000 in
theorem c_M_until (l : Launch) (dC : Nat → ClassId) (dI : Nat → Nat → Nat) (h0 a1 a2 sz : Nat) (k1 k2 : ClassId) (f g : Nat → Int32) (ent ret cnt per cng pnd msk sr sav tkn com : Int32) (en rn kn pn : Nat) (he : ent = nI en) (h32 : en ≤ 32) (hrn : ret = nI rn) (hk : com = nI kn) (hpn : per = nI pn) (hrl : rn < 2147483648) (hpl : pn < 268435456) (hs : rt_Srt f en) (hc : rt_Come f en rn kn) :
    Met l yX1_until wsX1_until ({ frames := 2, cells := 0, slots := 0, locals := 40 }) (va_Pc [.ref h0] (rt_pre dC dI (rt_mw h0 a1 a2 k1 k2 f g ent ret cnt per cng pnd msk sr sav tkn com) [(k1, .int), (k2, .int)] sz)) (va_Qi (fun (v : Int32) (u : Unit) => v = rt_un f g en rn cnt per cng pnd msk sr) (rt_post dC dI [(k1, .int), (k2, .int)] (va_A (rt_mw h0 a1 a2 k1 k2 f g ent ret cnt per cng pnd msk sr sav tkn com) sz) (fun (u : Unit) => rt_mw h0 a1 a2 k1 k2 f g ent ret cnt per cng pnd msk sr sav tkn com)) (va_A (rt_mw h0 a1 a2 k1 k2 f g ent ret cnt per cng pnd msk sr sav tkn com) sz)) 0 0 (va_A (rt_mw h0 a1 a2 k1 k2 f g ent ret cnt per cng pnd msk sr sav tkn com) sz) := by
  subst he
  subst hrn
  subst hk
  subst hpn
  refine Met.ofW (cc := cX1_until) (maxL := 6) (ret := (some .int)) (by decide) rfl ?_
  intro p e0 s m args below meth c s₁ B hml hv
  obtain ⟨rfl, hsz, hP, hK, hD0⟩ := hv
  have hx := B.exec
  have hb := B.bytes
  have hr := B.returns
  have hts := atoms_spec (ws := wsX1_until) B.pre
  have hown : s.vm.findClass RX1 = some m.cls := findClass_of_methodNamed B.named
  have hlocks := B.notSynchronized
  subst hsz
  have hD := hD0.self (sz := s.heap.size)
  generalize hAe : va_A (rt_mw h0 a1 a2 k1 k2 f g (nI en) (nI rn) cnt (nI pn) cng pnd msk sr sav tkn (nI kn)) s.heap.size = A at hD ⊢
  have hA : ∀ q : Nat, s.heap.size ≤ q → A q := fun q h => by rw [← hAe]; exact Or.inr h
  have hS : va_S A s.heap s.heap [] := va_S.rf
  have hP : va_P (dC, dI) vwCl (rt_mw h0 a1 a2 k1 k2 f g (nI en) (nI rn) cnt (nI pn) cng pnd msk sr sav tkn (nI kn)) s.heap := hP
  have hl := lv_entry ([.ref h0]) (n := 6) (Nat.le_of_ble_eq_true rfl)
  rw [lg_entry_eq]
  generalize (lg_sl ([.ref h0]) ++ List.replicate (6 - (lg_sl ([.ref h0])).length) Slot.unset).toArray = ls at hl ⊢
  have hl : lv_has ls 6 [(0, .ref h0)] := hl
  refine lv_aload_n hx hb dX1_until_0 rfl (lv_at hl 0 rfl) ?_
  refine lv_iconst (v := 0) hx hb dX1_until_1 (by decide) ?_
  refine va_put (D := (dC, dI)) (ci := 1) (v := .int 0) (ty := .int) (C := RX1) (T := TX1) (N := 14) hx hb hts (fun _ h => List.mem_cons_of_mem _ (List.mem_append_right _ h)) tyX1 tyX1_ok nmX1 hown hK hP hD hS 0 rfl rfl 0 (by decide) (hts (.fieldLink RX1 20 "RetiredTimerModel" "thrown" "I") (by decide +kernel)) (fun _ h9 => h9) rfl (by decide +kernel) rfl rfl (Nat.le_of_ble_eq_true rfl) dX1_until_2 (fun H locs hP hD hS => ?_)
  have hP : va_P (dC, dI) vwCl (rt_mw h0 a1 a2 k1 k2 f g (nI en) (nI rn) cnt (nI pn) cng pnd msk sr sav tkn (nI kn)) H := hP
  have hD : va_D A (rt_mw h0 a1 a2 k1 k2 f g (nI en) (nI rn) cnt (nI pn) cng pnd msk sr sav tkn (nI kn)) := hD
  refine lv_aload_n hx hb dX1_until_5 rfl (lv_at hl 0 rfl) ?_
  have hFc := va_free (wc := rt_mw h0 a1 a2 k1 k2 f g (nI en) (nI rn) cnt (nI pn) cng pnd msk sr sav tkn (nI kn)) hD hS hA [0, 1, 2] rfl
  refine va_calli (va_runV (As := []) (rest := []) ⟨hx, hb, hml, hown, hts⟩ (c_M_due l dC dI h0 a1 a2 H.size k1 k2 f g (nI en) (nI rn) cnt (nI pn) cng pnd msk sr sav tkn (nI kn) kn rfl (by have := hc.1; omega)) (cwV 0 hts gX1_until_X1_due rfl rfl rfl (by decide +kernel) ⟨Nat.le_of_ble_eq_true rfl, Nat.le_of_ble_eq_true rfl⟩) ⟨fun a U g mk q => by obtain ⟨q0, q1, qP, qK, qD⟩ := q; exact ⟨q0, q1, qP, va_K.moved (u := U) (U := U.calling g mk a) (Vm.Alike.refl U.vm) qK, qD⟩, va_recv hK hP (ci := 1) (q0 := 0) rfl rfl, fun U hU hW => ⟨rfl, by rw [hU], by rw [hU]; exact hP, va_K.moved hW.alike hK, hD.weaken (fun _ _ _ _ => trivial)⟩⟩ rfl rfl hl.1 rfl (lv_room (Nat.le_of_ble_eq_true rfl)) dX1_until_6 ⟨Nat.zero_le _, Nat.zero_le _⟩) hS (fun q _ h => hFc q h) hFc (fun r_6 u t H1 locs ht hvm hw_6 hB hz1 hk1 hS => ?_)
  obtain ⟨hP1, hK1, hD1⟩ := hB
  rw [ht] at hP1
  try dsimp only at hw_6 hP1 hD1
  obtain ⟨hP, hD⟩ := va_join (wr := []) (w1 := rt_mw h0 a1 a2 k1 k2 f g (nI en) (nI rn) cnt (nI pn) cng pnd msk sr sav tkn (nI kn)) hP hD [0, 1, 2] [] rfl rfl (by decide) (by decide) hk1 hFc hP1 hD1
  generalize H1 = H at hP hS ⊢
  have hP : va_P (dC, dI) vwCl (rt_mw h0 a1 a2 k1 k2 f g (nI en) (nI rn) cnt (nI pn) cng pnd msk sr sav tkn (nI kn)) H := hP
  have hD : va_D A (rt_mw h0 a1 a2 k1 k2 f g (nI en) (nI rn) cnt (nI pn) cng pnd msk sr sav tkn (nI kn)) := hD
  refine lv_if_le (tgt := 14) hx hb dX1_until_9 (by decide) (fun c_9 => ?_) (fun c_9 => ?_)
  · refine lv_ldc2 (v := 1099511627776) hx hb hown (hts (.constantLong RX1 69 1099511627776) (by decide +kernel)) dX1_until_14 ?_
    refine lv_lstore_n (lv' := [(1, .long 1099511627776), (0, .ref h0)]) hx hb dX1_until_17 rfl hl (by decide) rfl (fun ls hl => ?_)
    refine lv_aload_n hx hb dX1_until_18 rfl (lv_at hl 1 rfl) ?_
    refine va_get (D := (dC, dI)) (ci := 1) (v := .int sr) (C := RX1) (T := TX1) (N := 14) hx hb hts (fun _ h => List.mem_cons_of_mem _ (List.mem_append_right _ h)) hown hK hP 0 rfl rfl 7 (by decide) (hts (.fieldLink RX1 7 "RetiredTimerModel" "sr" "I") (by decide +kernel)) (fun _ h9 => h9) rfl dX1_until_19 ?_
    refine lv_iconst (v := 2) hx hb dX1_until_22 (by decide) ?_
    refine lv_iand hx hb dX1_until_23 ?_
    refine lv_if_eq (tgt := 62) hx hb dX1_until_24 (by decide) (fun c_24 => ?_) (fun c_24 => ?_)
    · have et : rt_timM sr cng (nI pn) cnt = 1099511627776 := if_pos (Or.inl c_24)
      have hl : lv_has ls 6 [(0, .ref h0), (1, .long (rt_timM sr cng (nI pn) cnt))] := by rw [et]; exact lv_sub hl [1, 0] rfl
      refine lv_aload_n hx hb dX1_until_62 rfl (lv_at hl 0 rfl) ?_
      refine va_get (D := (dC, dI)) (ci := 1) (v := .int (nI en)) (C := RX1) (T := TX1) (N := 14) hx hb hts (fun _ h => List.mem_cons_of_mem _ (List.mem_append_right _ h)) hown hK hP 0 rfl rfl 12 (by decide) (hts (.fieldLink RX1 26 "RetiredTimerModel" "entries" "I") (by decide +kernel)) (fun _ h9 => h9) rfl dX1_until_63 ?_
      refine lv_iconst (v := 1) hx hb dX1_until_66 (by decide) ?_
      refine lv_isub hx hb dX1_until_67 ?_
      refine lv_istore_n (lv' := [(3, .int ((nI en) - 1)), (0, .ref h0), (1, .long (rt_timM sr cng (nI pn) cnt))]) hx hb dX1_until_68 rfl hl (by decide) rfl (fun ls hl => ?_)
      by_cases h4 : sr &&& 4 = 0
      · refine lv_iload_n hx hb dX1_until_69 rfl (lv_at hl 0 rfl) ?_
        refine lv_aload_n hx hb dX1_until_70 rfl (lv_at hl 1 rfl) ?_
        refine va_get (D := (dC, dI)) (ci := 1) (v := .int (nI kn)) (C := RX1) (T := TX1) (N := 14) hx hb hts (fun _ h => List.mem_cons_of_mem _ (List.mem_append_right _ h)) hown hK hP 0 rfl rfl 13 (by decide) (hts (.fieldLink RX1 23 "RetiredTimerModel" "come" "I") (by decide +kernel)) (fun _ h9 => h9) rfl dX1_until_71 ?_
        refine lv_icmp_lt (tgt := 135) hx hb dX1_until_74 (by decide) (fun c_74 => ?_) (fun c_74 => ?_)
        · refine lv_aload_n hx hb dX1_until_135 rfl (lv_at hl 1 rfl) ?_
          refine va_get (D := (dC, dI)) (ci := 1) (v := .int (nI rn)) (C := RX1) (T := TX1) (N := 14) hx hb hts (fun _ h => List.mem_cons_of_mem _ (List.mem_append_right _ h)) hown hK hP 0 rfl rfl 1 (by decide) (hts (.fieldLink RX1 29 "RetiredTimerModel" "retired" "I") (by decide +kernel)) (fun _ h9 => h9) rfl dX1_until_136 ?_
          refine lv_i2l (v := (nI rn).toInt64) hx hb dX1_until_139 rfl ?_
          refine lv_lload_n hx hb dX1_until_140 rfl (lv_at hl 2 rfl) ?_
          refine lv_ladd hx hb dX1_until_141 ?_
          refine lv_ldc2 (v := 2147483647) hx hb hown (hts (.constantLong RX1 73 2147483647) (by decide +kernel)) dX1_until_142 ?_
          refine W.lcmp hx hb dX1_until_145 ?_
          refine lv_if_le (tgt := 153) hx hb dX1_until_146 (by decide) (fun c_146 => ?_) (fun c_146 => ?_)
          · refine lv_lload_n hx hb dX1_until_153 rfl (lv_at hl 2 rfl) ?_
            refine lv_l2i (v := (rt_timM sr cng (nI pn) cnt).toInt32) hx hb dX1_until_154 rfl ?_
            have hz := rt_dueLe hw_6 c_9
            have hu := rt_unM_z (f := f) (g := g) (e := en) (r := rn) (k := kn) (cnt := cnt) (per := nI pn) (cng := cng) (msk := msk) h4
            exact W.iret (v := (rt_timM sr cng (nI pn) cnt).toInt32) hx hb hr (fun t ht hW => ⟨⟨(rt_timM sr cng (nI pn) cnt).toInt32, (), rfl, by rw [rt_un_eq hrl hpl hs hc, if_pos hz, hu, if_neg (rt_geL ((lg_cmp_le _ _).mp c_146))], by rw [ht]; exact hP, va_K.moved hW.alike hK, hD⟩, hS.F ht⟩) hS.2.2 dX1_until_155
          · refine lv_iconst (v := -1) hx hb dX1_until_149 (by decide) ?_
            refine lv_goto (tgt := 155) hx hb dX1_until_150 (by decide) ?_
            have hz := rt_dueLe hw_6 c_9
            have hu := rt_unM_z (f := f) (g := g) (e := en) (r := rn) (k := kn) (cnt := cnt) (per := nI pn) (cng := cng) (msk := msk) h4
            exact W.iret (v := (-1)) hx hb hr (fun t ht hW => ⟨⟨(-1), (), rfl, by rw [rt_un_eq hrl hpl hs hc, if_pos hz, hu, if_pos (rt_nleL (fun h => c_146 ((lg_cmp_le _ _).mpr h)))], by rw [ht]; exact hP, va_K.moved hW.alike hK, hD⟩, hS.F ht⟩) hS.2.2 dX1_until_155
        · refine lv_aload_n hx hb dX1_until_77 rfl (lv_at hl 1 rfl) ?_
          refine va_get (D := (dC, dI)) (ci := 1) (v := .int sr) (C := RX1) (T := TX1) (N := 14) hx hb hts (fun _ h => List.mem_cons_of_mem _ (List.mem_append_right _ h)) hown hK hP 0 rfl rfl 7 (by decide) (hts (.fieldLink RX1 7 "RetiredTimerModel" "sr" "I") (by decide +kernel)) (fun _ h9 => h9) rfl dX1_until_78 ?_
          refine lv_iconst (v := 4) hx hb dX1_until_81 (by decide) ?_
          refine lv_iand hx hb dX1_until_82 ?_
          refine lv_if_eq (tgt := 135) hx hb dX1_until_83 (by decide) (fun c_83 => ?_) (fun c_83 => absurd h4 c_83)
          refine lv_aload_n hx hb dX1_until_135 rfl (lv_at hl 1 rfl) ?_
          refine va_get (D := (dC, dI)) (ci := 1) (v := .int (nI rn)) (C := RX1) (T := TX1) (N := 14) hx hb hts (fun _ h => List.mem_cons_of_mem _ (List.mem_append_right _ h)) hown hK hP 0 rfl rfl 1 (by decide) (hts (.fieldLink RX1 29 "RetiredTimerModel" "retired" "I") (by decide +kernel)) (fun _ h9 => h9) rfl dX1_until_136 ?_
          refine lv_i2l (v := (nI rn).toInt64) hx hb dX1_until_139 rfl ?_
          refine lv_lload_n hx hb dX1_until_140 rfl (lv_at hl 2 rfl) ?_
          refine lv_ladd hx hb dX1_until_141 ?_
          refine lv_ldc2 (v := 2147483647) hx hb hown (hts (.constantLong RX1 73 2147483647) (by decide +kernel)) dX1_until_142 ?_
          refine W.lcmp hx hb dX1_until_145 ?_
          refine lv_if_le (tgt := 153) hx hb dX1_until_146 (by decide) (fun c_146 => ?_) (fun c_146 => ?_)
          · refine lv_lload_n hx hb dX1_until_153 rfl (lv_at hl 2 rfl) ?_
            refine lv_l2i (v := (rt_timM sr cng (nI pn) cnt).toInt32) hx hb dX1_until_154 rfl ?_
            have hz := rt_dueLe hw_6 c_9
            have hu := rt_unM_z (f := f) (g := g) (e := en) (r := rn) (k := kn) (cnt := cnt) (per := nI pn) (cng := cng) (msk := msk) h4
            exact W.iret (v := (rt_timM sr cng (nI pn) cnt).toInt32) hx hb hr (fun t ht hW => ⟨⟨(rt_timM sr cng (nI pn) cnt).toInt32, (), rfl, by rw [rt_un_eq hrl hpl hs hc, if_pos hz, hu, if_neg (rt_geL ((lg_cmp_le _ _).mp c_146))], by rw [ht]; exact hP, va_K.moved hW.alike hK, hD⟩, hS.F ht⟩) hS.2.2 dX1_until_155
          · refine lv_iconst (v := -1) hx hb dX1_until_149 (by decide) ?_
            refine lv_goto (tgt := 155) hx hb dX1_until_150 (by decide) ?_
            have hz := rt_dueLe hw_6 c_9
            have hu := rt_unM_z (f := f) (g := g) (e := en) (r := rn) (k := kn) (cnt := cnt) (per := nI pn) (cng := cng) (msk := msk) h4
            exact W.iret (v := (-1)) hx hb hr (fun t ht hW => ⟨⟨(-1), (), rfl, by rw [rt_un_eq hrl hpl hs hc, if_pos hz, hu, if_pos (rt_nleL (fun h => c_146 ((lg_cmp_le _ _).mpr h)))], by rw [ht]; exact hP, va_K.moved hW.alike hK, hD⟩, hS.F ht⟩) hS.2.2 dX1_until_155
      · refine lp_M_until (f := f) (g := g) (msk := msk) (sr := sr) (en := en) (rn := rn) (kn := kn) hx hb hts hown hK hP h32 h4 (fun ls hl => ?_) (en - kn) (rt_timM sr cng (nI pn) cnt) (by have := hc.1; omega) rfl ls (by rw [show kn + (en - kn) = en by have := hc.1; omega]; exact lv_sub hl [1, 2, 0] rfl)
        refine lv_aload_n hx hb dX1_until_135 rfl (lv_at hl 0 rfl) ?_
        refine va_get (D := (dC, dI)) (ci := 1) (v := .int (nI rn)) (C := RX1) (T := TX1) (N := 14) hx hb hts (fun _ h => List.mem_cons_of_mem _ (List.mem_append_right _ h)) hown hK hP 0 rfl rfl 1 (by decide) (hts (.fieldLink RX1 29 "RetiredTimerModel" "retired" "I") (by decide +kernel)) (fun _ h9 => h9) rfl dX1_until_136 ?_
        refine lv_i2l (v := (nI rn).toInt64) hx hb dX1_until_139 rfl ?_
        refine lv_lload_n hx hb dX1_until_140 rfl (lv_at hl 1 rfl) ?_
        refine lv_ladd hx hb dX1_until_141 ?_
        refine lv_ldc2 (v := 2147483647) hx hb hown (hts (.constantLong RX1 73 2147483647) (by decide +kernel)) dX1_until_142 ?_
        refine W.lcmp hx hb dX1_until_145 ?_
        refine lv_if_le (tgt := 153) hx hb dX1_until_146 (by decide) (fun c_146 => ?_) (fun c_146 => ?_)
        · refine lv_lload_n hx hb dX1_until_153 rfl (lv_at hl 1 rfl) ?_
          refine lv_l2i (v := (rt_ml f g (nI rn) msk kn (en - kn) (rt_timM sr cng (nI pn) cnt)).toInt32) hx hb dX1_until_154 rfl ?_
          have hz := rt_dueLe hw_6 c_9
          have hu := rt_unM_n (f := f) (g := g) (e := en) (r := rn) (k := kn) (cnt := cnt) (per := nI pn) (cng := cng) (msk := msk) h4
          exact W.iret (v := (rt_ml f g (nI rn) msk kn (en - kn) (rt_timM sr cng (nI pn) cnt)).toInt32) hx hb hr (fun t ht hW => ⟨⟨(rt_ml f g (nI rn) msk kn (en - kn) (rt_timM sr cng (nI pn) cnt)).toInt32, (), rfl, by rw [rt_un_eq hrl hpl hs hc, if_pos hz, hu, if_neg (rt_geL ((lg_cmp_le _ _).mp c_146))], by rw [ht]; exact hP, va_K.moved hW.alike hK, hD⟩, hS.F ht⟩) hS.2.2 dX1_until_155
        · refine lv_iconst (v := -1) hx hb dX1_until_149 (by decide) ?_
          refine lv_goto (tgt := 155) hx hb dX1_until_150 (by decide) ?_
          have hz := rt_dueLe hw_6 c_9
          have hu := rt_unM_n (f := f) (g := g) (e := en) (r := rn) (k := kn) (cnt := cnt) (per := nI pn) (cng := cng) (msk := msk) h4
          exact W.iret (v := (-1)) hx hb hr (fun t ht hW => ⟨⟨(-1), (), rfl, by rw [rt_un_eq hrl hpl hs hc, if_pos hz, hu, if_pos (rt_nleL (fun h => c_146 ((lg_cmp_le _ _).mpr h)))], by rw [ht]; exact hP, va_K.moved hW.alike hK, hD⟩, hS.F ht⟩) hS.2.2 dX1_until_155
    · refine lv_aload_n hx hb dX1_until_27 rfl (lv_at hl 1 rfl) ?_
      refine va_get (D := (dC, dI)) (ci := 1) (v := .int cng) (C := RX1) (T := TX1) (N := 14) hx hb hts (fun _ h => List.mem_cons_of_mem _ (List.mem_append_right _ h)) hown hK hP 0 rfl rfl 4 (by decide) (hts (.fieldLink RX1 46 "RetiredTimerModel" "counting" "Z") (by decide +kernel)) (fun _ h9 => h9) rfl dX1_until_28 ?_
      refine lv_if_eq (tgt := 62) hx hb dX1_until_31 (by decide) (fun c_31 => ?_) (fun c_31 => ?_)
      · have et : rt_timM sr cng (nI pn) cnt = 1099511627776 := if_pos (Or.inr c_31)
        have hl : lv_has ls 6 [(0, .ref h0), (1, .long (rt_timM sr cng (nI pn) cnt))] := by rw [et]; exact lv_sub hl [1, 0] rfl
        refine lv_aload_n hx hb dX1_until_62 rfl (lv_at hl 0 rfl) ?_
        refine va_get (D := (dC, dI)) (ci := 1) (v := .int (nI en)) (C := RX1) (T := TX1) (N := 14) hx hb hts (fun _ h => List.mem_cons_of_mem _ (List.mem_append_right _ h)) hown hK hP 0 rfl rfl 12 (by decide) (hts (.fieldLink RX1 26 "RetiredTimerModel" "entries" "I") (by decide +kernel)) (fun _ h9 => h9) rfl dX1_until_63 ?_
        refine lv_iconst (v := 1) hx hb dX1_until_66 (by decide) ?_
        refine lv_isub hx hb dX1_until_67 ?_
        refine lv_istore_n (lv' := [(3, .int ((nI en) - 1)), (0, .ref h0), (1, .long (rt_timM sr cng (nI pn) cnt))]) hx hb dX1_until_68 rfl hl (by decide) rfl (fun ls hl => ?_)
        by_cases h4 : sr &&& 4 = 0
        · refine lv_iload_n hx hb dX1_until_69 rfl (lv_at hl 0 rfl) ?_
          refine lv_aload_n hx hb dX1_until_70 rfl (lv_at hl 1 rfl) ?_
          refine va_get (D := (dC, dI)) (ci := 1) (v := .int (nI kn)) (C := RX1) (T := TX1) (N := 14) hx hb hts (fun _ h => List.mem_cons_of_mem _ (List.mem_append_right _ h)) hown hK hP 0 rfl rfl 13 (by decide) (hts (.fieldLink RX1 23 "RetiredTimerModel" "come" "I") (by decide +kernel)) (fun _ h9 => h9) rfl dX1_until_71 ?_
          refine lv_icmp_lt (tgt := 135) hx hb dX1_until_74 (by decide) (fun c_74 => ?_) (fun c_74 => ?_)
          · refine lv_aload_n hx hb dX1_until_135 rfl (lv_at hl 1 rfl) ?_
            refine va_get (D := (dC, dI)) (ci := 1) (v := .int (nI rn)) (C := RX1) (T := TX1) (N := 14) hx hb hts (fun _ h => List.mem_cons_of_mem _ (List.mem_append_right _ h)) hown hK hP 0 rfl rfl 1 (by decide) (hts (.fieldLink RX1 29 "RetiredTimerModel" "retired" "I") (by decide +kernel)) (fun _ h9 => h9) rfl dX1_until_136 ?_
            refine lv_i2l (v := (nI rn).toInt64) hx hb dX1_until_139 rfl ?_
            refine lv_lload_n hx hb dX1_until_140 rfl (lv_at hl 2 rfl) ?_
            refine lv_ladd hx hb dX1_until_141 ?_
            refine lv_ldc2 (v := 2147483647) hx hb hown (hts (.constantLong RX1 73 2147483647) (by decide +kernel)) dX1_until_142 ?_
            refine W.lcmp hx hb dX1_until_145 ?_
            refine lv_if_le (tgt := 153) hx hb dX1_until_146 (by decide) (fun c_146 => ?_) (fun c_146 => ?_)
            · refine lv_lload_n hx hb dX1_until_153 rfl (lv_at hl 2 rfl) ?_
              refine lv_l2i (v := (rt_timM sr cng (nI pn) cnt).toInt32) hx hb dX1_until_154 rfl ?_
              have hz := rt_dueLe hw_6 c_9
              have hu := rt_unM_z (f := f) (g := g) (e := en) (r := rn) (k := kn) (cnt := cnt) (per := nI pn) (cng := cng) (msk := msk) h4
              exact W.iret (v := (rt_timM sr cng (nI pn) cnt).toInt32) hx hb hr (fun t ht hW => ⟨⟨(rt_timM sr cng (nI pn) cnt).toInt32, (), rfl, by rw [rt_un_eq hrl hpl hs hc, if_pos hz, hu, if_neg (rt_geL ((lg_cmp_le _ _).mp c_146))], by rw [ht]; exact hP, va_K.moved hW.alike hK, hD⟩, hS.F ht⟩) hS.2.2 dX1_until_155
            · refine lv_iconst (v := -1) hx hb dX1_until_149 (by decide) ?_
              refine lv_goto (tgt := 155) hx hb dX1_until_150 (by decide) ?_
              have hz := rt_dueLe hw_6 c_9
              have hu := rt_unM_z (f := f) (g := g) (e := en) (r := rn) (k := kn) (cnt := cnt) (per := nI pn) (cng := cng) (msk := msk) h4
              exact W.iret (v := (-1)) hx hb hr (fun t ht hW => ⟨⟨(-1), (), rfl, by rw [rt_un_eq hrl hpl hs hc, if_pos hz, hu, if_pos (rt_nleL (fun h => c_146 ((lg_cmp_le _ _).mpr h)))], by rw [ht]; exact hP, va_K.moved hW.alike hK, hD⟩, hS.F ht⟩) hS.2.2 dX1_until_155
          · refine lv_aload_n hx hb dX1_until_77 rfl (lv_at hl 1 rfl) ?_
            refine va_get (D := (dC, dI)) (ci := 1) (v := .int sr) (C := RX1) (T := TX1) (N := 14) hx hb hts (fun _ h => List.mem_cons_of_mem _ (List.mem_append_right _ h)) hown hK hP 0 rfl rfl 7 (by decide) (hts (.fieldLink RX1 7 "RetiredTimerModel" "sr" "I") (by decide +kernel)) (fun _ h9 => h9) rfl dX1_until_78 ?_
            refine lv_iconst (v := 4) hx hb dX1_until_81 (by decide) ?_
            refine lv_iand hx hb dX1_until_82 ?_
            refine lv_if_eq (tgt := 135) hx hb dX1_until_83 (by decide) (fun c_83 => ?_) (fun c_83 => absurd h4 c_83)
            refine lv_aload_n hx hb dX1_until_135 rfl (lv_at hl 1 rfl) ?_
            refine va_get (D := (dC, dI)) (ci := 1) (v := .int (nI rn)) (C := RX1) (T := TX1) (N := 14) hx hb hts (fun _ h => List.mem_cons_of_mem _ (List.mem_append_right _ h)) hown hK hP 0 rfl rfl 1 (by decide) (hts (.fieldLink RX1 29 "RetiredTimerModel" "retired" "I") (by decide +kernel)) (fun _ h9 => h9) rfl dX1_until_136 ?_
            refine lv_i2l (v := (nI rn).toInt64) hx hb dX1_until_139 rfl ?_
            refine lv_lload_n hx hb dX1_until_140 rfl (lv_at hl 2 rfl) ?_
            refine lv_ladd hx hb dX1_until_141 ?_
            refine lv_ldc2 (v := 2147483647) hx hb hown (hts (.constantLong RX1 73 2147483647) (by decide +kernel)) dX1_until_142 ?_
            refine W.lcmp hx hb dX1_until_145 ?_
            refine lv_if_le (tgt := 153) hx hb dX1_until_146 (by decide) (fun c_146 => ?_) (fun c_146 => ?_)
            · refine lv_lload_n hx hb dX1_until_153 rfl (lv_at hl 2 rfl) ?_
              refine lv_l2i (v := (rt_timM sr cng (nI pn) cnt).toInt32) hx hb dX1_until_154 rfl ?_
              have hz := rt_dueLe hw_6 c_9
              have hu := rt_unM_z (f := f) (g := g) (e := en) (r := rn) (k := kn) (cnt := cnt) (per := nI pn) (cng := cng) (msk := msk) h4
              exact W.iret (v := (rt_timM sr cng (nI pn) cnt).toInt32) hx hb hr (fun t ht hW => ⟨⟨(rt_timM sr cng (nI pn) cnt).toInt32, (), rfl, by rw [rt_un_eq hrl hpl hs hc, if_pos hz, hu, if_neg (rt_geL ((lg_cmp_le _ _).mp c_146))], by rw [ht]; exact hP, va_K.moved hW.alike hK, hD⟩, hS.F ht⟩) hS.2.2 dX1_until_155
            · refine lv_iconst (v := -1) hx hb dX1_until_149 (by decide) ?_
              refine lv_goto (tgt := 155) hx hb dX1_until_150 (by decide) ?_
              have hz := rt_dueLe hw_6 c_9
              have hu := rt_unM_z (f := f) (g := g) (e := en) (r := rn) (k := kn) (cnt := cnt) (per := nI pn) (cng := cng) (msk := msk) h4
              exact W.iret (v := (-1)) hx hb hr (fun t ht hW => ⟨⟨(-1), (), rfl, by rw [rt_un_eq hrl hpl hs hc, if_pos hz, hu, if_pos (rt_nleL (fun h => c_146 ((lg_cmp_le _ _).mpr h)))], by rw [ht]; exact hP, va_K.moved hW.alike hK, hD⟩, hS.F ht⟩) hS.2.2 dX1_until_155
        · refine lp_M_until (f := f) (g := g) (msk := msk) (sr := sr) (en := en) (rn := rn) (kn := kn) hx hb hts hown hK hP h32 h4 (fun ls hl => ?_) (en - kn) (rt_timM sr cng (nI pn) cnt) (by have := hc.1; omega) rfl ls (by rw [show kn + (en - kn) = en by have := hc.1; omega]; exact lv_sub hl [1, 2, 0] rfl)
          refine lv_aload_n hx hb dX1_until_135 rfl (lv_at hl 0 rfl) ?_
          refine va_get (D := (dC, dI)) (ci := 1) (v := .int (nI rn)) (C := RX1) (T := TX1) (N := 14) hx hb hts (fun _ h => List.mem_cons_of_mem _ (List.mem_append_right _ h)) hown hK hP 0 rfl rfl 1 (by decide) (hts (.fieldLink RX1 29 "RetiredTimerModel" "retired" "I") (by decide +kernel)) (fun _ h9 => h9) rfl dX1_until_136 ?_
          refine lv_i2l (v := (nI rn).toInt64) hx hb dX1_until_139 rfl ?_
          refine lv_lload_n hx hb dX1_until_140 rfl (lv_at hl 1 rfl) ?_
          refine lv_ladd hx hb dX1_until_141 ?_
          refine lv_ldc2 (v := 2147483647) hx hb hown (hts (.constantLong RX1 73 2147483647) (by decide +kernel)) dX1_until_142 ?_
          refine W.lcmp hx hb dX1_until_145 ?_
          refine lv_if_le (tgt := 153) hx hb dX1_until_146 (by decide) (fun c_146 => ?_) (fun c_146 => ?_)
          · refine lv_lload_n hx hb dX1_until_153 rfl (lv_at hl 1 rfl) ?_
            refine lv_l2i (v := (rt_ml f g (nI rn) msk kn (en - kn) (rt_timM sr cng (nI pn) cnt)).toInt32) hx hb dX1_until_154 rfl ?_
            have hz := rt_dueLe hw_6 c_9
            have hu := rt_unM_n (f := f) (g := g) (e := en) (r := rn) (k := kn) (cnt := cnt) (per := nI pn) (cng := cng) (msk := msk) h4
            exact W.iret (v := (rt_ml f g (nI rn) msk kn (en - kn) (rt_timM sr cng (nI pn) cnt)).toInt32) hx hb hr (fun t ht hW => ⟨⟨(rt_ml f g (nI rn) msk kn (en - kn) (rt_timM sr cng (nI pn) cnt)).toInt32, (), rfl, by rw [rt_un_eq hrl hpl hs hc, if_pos hz, hu, if_neg (rt_geL ((lg_cmp_le _ _).mp c_146))], by rw [ht]; exact hP, va_K.moved hW.alike hK, hD⟩, hS.F ht⟩) hS.2.2 dX1_until_155
          · refine lv_iconst (v := -1) hx hb dX1_until_149 (by decide) ?_
            refine lv_goto (tgt := 155) hx hb dX1_until_150 (by decide) ?_
            have hz := rt_dueLe hw_6 c_9
            have hu := rt_unM_n (f := f) (g := g) (e := en) (r := rn) (k := kn) (cnt := cnt) (per := nI pn) (cng := cng) (msk := msk) h4
            exact W.iret (v := (-1)) hx hb hr (fun t ht hW => ⟨⟨(-1), (), rfl, by rw [rt_un_eq hrl hpl hs hc, if_pos hz, hu, if_pos (rt_nleL (fun h => c_146 ((lg_cmp_le _ _).mpr h)))], by rw [ht]; exact hP, va_K.moved hW.alike hK, hD⟩, hS.F ht⟩) hS.2.2 dX1_until_155
      · refine lv_aload_n hx hb dX1_until_34 rfl (lv_at hl 1 rfl) ?_
        refine va_get (D := (dC, dI)) (ci := 1) (v := .int (nI pn)) (C := RX1) (T := TX1) (N := 14) hx hb hts (fun _ h => List.mem_cons_of_mem _ (List.mem_append_right _ h)) hown hK hP 0 rfl rfl 3 (by decide) (hts (.fieldLink RX1 52 "RetiredTimerModel" "period" "I") (by decide +kernel)) (fun _ h9 => h9) rfl dX1_until_35 ?_
        refine lv_i2l (v := (nI pn).toInt64) hx hb dX1_until_38 rfl ?_
        refine lv_aload_n hx hb dX1_until_39 rfl (lv_at hl 1 rfl) ?_
        refine va_get (D := (dC, dI)) (ci := 1) (v := .int cnt) (C := RX1) (T := TX1) (N := 14) hx hb hts (fun _ h => List.mem_cons_of_mem _ (List.mem_append_right _ h)) hown hK hP 0 rfl rfl 2 (by decide) (hts (.fieldLink RX1 49 "RetiredTimerModel" "count" "I") (by decide +kernel)) (fun _ h9 => h9) rfl dX1_until_40 ?_
        refine lv_i2l (v := cnt.toInt64) hx hb dX1_until_43 rfl ?_
        refine lv_lsub hx hb dX1_until_44 ?_
        refine lv_lstore_n (lv' := [(3, .long (((nI pn).toInt64) - cnt.toInt64)), (1, .long 1099511627776), (0, .ref h0)]) hx hb dX1_until_45 rfl hl (by decide) rfl (fun ls hl => ?_)
        refine lv_lload_n hx hb dX1_until_46 rfl (lv_at hl 0 rfl) ?_
        refine lv_lconst (v := 0) hx hb dX1_until_47 (by decide) ?_
        refine W.lcmp hx hb dX1_until_48 ?_
        refine lv_if_le (tgt := 56) hx hb dX1_until_49 (by decide) (fun c_49 => ?_) (fun c_49 => ?_)
        · refine lv_lload_n hx hb dX1_until_56 rfl (lv_at hl 0 rfl) ?_
          refine lv_ldc2 (v := 4294967296) hx hb hown (hts (.constantLong RX1 71 4294967296) (by decide +kernel)) dX1_until_57 ?_
          refine lv_ladd hx hb dX1_until_60 ?_
          refine lv_lstore_n (lv' := [(1, .long ((((nI pn).toInt64) - cnt.toInt64) + 4294967296)), (3, .long (((nI pn).toInt64) - cnt.toInt64)), (0, .ref h0)]) hx hb dX1_until_61 rfl hl (by decide) rfl (fun ls hl => ?_)
          have et : rt_timM sr cng (nI pn) cnt = (((nI pn).toInt64) - cnt.toInt64) + 4294967296 := (if_neg (fun h => h.elim c_24 c_31)).trans (if_neg (fun h => rt_geL ((lg_cmp_le _ _).mp c_49) h))
          have hl : lv_has ls 6 [(0, .ref h0), (1, .long (rt_timM sr cng (nI pn) cnt))] := by rw [et]; exact lv_sub hl [2, 0] rfl
          refine lv_aload_n hx hb dX1_until_62 rfl (lv_at hl 0 rfl) ?_
          refine va_get (D := (dC, dI)) (ci := 1) (v := .int (nI en)) (C := RX1) (T := TX1) (N := 14) hx hb hts (fun _ h => List.mem_cons_of_mem _ (List.mem_append_right _ h)) hown hK hP 0 rfl rfl 12 (by decide) (hts (.fieldLink RX1 26 "RetiredTimerModel" "entries" "I") (by decide +kernel)) (fun _ h9 => h9) rfl dX1_until_63 ?_
          refine lv_iconst (v := 1) hx hb dX1_until_66 (by decide) ?_
          refine lv_isub hx hb dX1_until_67 ?_
          refine lv_istore_n (lv' := [(3, .int ((nI en) - 1)), (0, .ref h0), (1, .long (rt_timM sr cng (nI pn) cnt))]) hx hb dX1_until_68 rfl hl (by decide) rfl (fun ls hl => ?_)
          by_cases h4 : sr &&& 4 = 0
          · refine lv_iload_n hx hb dX1_until_69 rfl (lv_at hl 0 rfl) ?_
            refine lv_aload_n hx hb dX1_until_70 rfl (lv_at hl 1 rfl) ?_
            refine va_get (D := (dC, dI)) (ci := 1) (v := .int (nI kn)) (C := RX1) (T := TX1) (N := 14) hx hb hts (fun _ h => List.mem_cons_of_mem _ (List.mem_append_right _ h)) hown hK hP 0 rfl rfl 13 (by decide) (hts (.fieldLink RX1 23 "RetiredTimerModel" "come" "I") (by decide +kernel)) (fun _ h9 => h9) rfl dX1_until_71 ?_
            refine lv_icmp_lt (tgt := 135) hx hb dX1_until_74 (by decide) (fun c_74 => ?_) (fun c_74 => ?_)
            · refine lv_aload_n hx hb dX1_until_135 rfl (lv_at hl 1 rfl) ?_
              refine va_get (D := (dC, dI)) (ci := 1) (v := .int (nI rn)) (C := RX1) (T := TX1) (N := 14) hx hb hts (fun _ h => List.mem_cons_of_mem _ (List.mem_append_right _ h)) hown hK hP 0 rfl rfl 1 (by decide) (hts (.fieldLink RX1 29 "RetiredTimerModel" "retired" "I") (by decide +kernel)) (fun _ h9 => h9) rfl dX1_until_136 ?_
              refine lv_i2l (v := (nI rn).toInt64) hx hb dX1_until_139 rfl ?_
              refine lv_lload_n hx hb dX1_until_140 rfl (lv_at hl 2 rfl) ?_
              refine lv_ladd hx hb dX1_until_141 ?_
              refine lv_ldc2 (v := 2147483647) hx hb hown (hts (.constantLong RX1 73 2147483647) (by decide +kernel)) dX1_until_142 ?_
              refine W.lcmp hx hb dX1_until_145 ?_
              refine lv_if_le (tgt := 153) hx hb dX1_until_146 (by decide) (fun c_146 => ?_) (fun c_146 => ?_)
              · refine lv_lload_n hx hb dX1_until_153 rfl (lv_at hl 2 rfl) ?_
                refine lv_l2i (v := (rt_timM sr cng (nI pn) cnt).toInt32) hx hb dX1_until_154 rfl ?_
                have hz := rt_dueLe hw_6 c_9
                have hu := rt_unM_z (f := f) (g := g) (e := en) (r := rn) (k := kn) (cnt := cnt) (per := nI pn) (cng := cng) (msk := msk) h4
                exact W.iret (v := (rt_timM sr cng (nI pn) cnt).toInt32) hx hb hr (fun t ht hW => ⟨⟨(rt_timM sr cng (nI pn) cnt).toInt32, (), rfl, by rw [rt_un_eq hrl hpl hs hc, if_pos hz, hu, if_neg (rt_geL ((lg_cmp_le _ _).mp c_146))], by rw [ht]; exact hP, va_K.moved hW.alike hK, hD⟩, hS.F ht⟩) hS.2.2 dX1_until_155
              · refine lv_iconst (v := -1) hx hb dX1_until_149 (by decide) ?_
                refine lv_goto (tgt := 155) hx hb dX1_until_150 (by decide) ?_
                have hz := rt_dueLe hw_6 c_9
                have hu := rt_unM_z (f := f) (g := g) (e := en) (r := rn) (k := kn) (cnt := cnt) (per := nI pn) (cng := cng) (msk := msk) h4
                exact W.iret (v := (-1)) hx hb hr (fun t ht hW => ⟨⟨(-1), (), rfl, by rw [rt_un_eq hrl hpl hs hc, if_pos hz, hu, if_pos (rt_nleL (fun h => c_146 ((lg_cmp_le _ _).mpr h)))], by rw [ht]; exact hP, va_K.moved hW.alike hK, hD⟩, hS.F ht⟩) hS.2.2 dX1_until_155
            · refine lv_aload_n hx hb dX1_until_77 rfl (lv_at hl 1 rfl) ?_
              refine va_get (D := (dC, dI)) (ci := 1) (v := .int sr) (C := RX1) (T := TX1) (N := 14) hx hb hts (fun _ h => List.mem_cons_of_mem _ (List.mem_append_right _ h)) hown hK hP 0 rfl rfl 7 (by decide) (hts (.fieldLink RX1 7 "RetiredTimerModel" "sr" "I") (by decide +kernel)) (fun _ h9 => h9) rfl dX1_until_78 ?_
              refine lv_iconst (v := 4) hx hb dX1_until_81 (by decide) ?_
              refine lv_iand hx hb dX1_until_82 ?_
              refine lv_if_eq (tgt := 135) hx hb dX1_until_83 (by decide) (fun c_83 => ?_) (fun c_83 => absurd h4 c_83)
              refine lv_aload_n hx hb dX1_until_135 rfl (lv_at hl 1 rfl) ?_
              refine va_get (D := (dC, dI)) (ci := 1) (v := .int (nI rn)) (C := RX1) (T := TX1) (N := 14) hx hb hts (fun _ h => List.mem_cons_of_mem _ (List.mem_append_right _ h)) hown hK hP 0 rfl rfl 1 (by decide) (hts (.fieldLink RX1 29 "RetiredTimerModel" "retired" "I") (by decide +kernel)) (fun _ h9 => h9) rfl dX1_until_136 ?_
              refine lv_i2l (v := (nI rn).toInt64) hx hb dX1_until_139 rfl ?_
              refine lv_lload_n hx hb dX1_until_140 rfl (lv_at hl 2 rfl) ?_
              refine lv_ladd hx hb dX1_until_141 ?_
              refine lv_ldc2 (v := 2147483647) hx hb hown (hts (.constantLong RX1 73 2147483647) (by decide +kernel)) dX1_until_142 ?_
              refine W.lcmp hx hb dX1_until_145 ?_
              refine lv_if_le (tgt := 153) hx hb dX1_until_146 (by decide) (fun c_146 => ?_) (fun c_146 => ?_)
              · refine lv_lload_n hx hb dX1_until_153 rfl (lv_at hl 2 rfl) ?_
                refine lv_l2i (v := (rt_timM sr cng (nI pn) cnt).toInt32) hx hb dX1_until_154 rfl ?_
                have hz := rt_dueLe hw_6 c_9
                have hu := rt_unM_z (f := f) (g := g) (e := en) (r := rn) (k := kn) (cnt := cnt) (per := nI pn) (cng := cng) (msk := msk) h4
                exact W.iret (v := (rt_timM sr cng (nI pn) cnt).toInt32) hx hb hr (fun t ht hW => ⟨⟨(rt_timM sr cng (nI pn) cnt).toInt32, (), rfl, by rw [rt_un_eq hrl hpl hs hc, if_pos hz, hu, if_neg (rt_geL ((lg_cmp_le _ _).mp c_146))], by rw [ht]; exact hP, va_K.moved hW.alike hK, hD⟩, hS.F ht⟩) hS.2.2 dX1_until_155
              · refine lv_iconst (v := -1) hx hb dX1_until_149 (by decide) ?_
                refine lv_goto (tgt := 155) hx hb dX1_until_150 (by decide) ?_
                have hz := rt_dueLe hw_6 c_9
                have hu := rt_unM_z (f := f) (g := g) (e := en) (r := rn) (k := kn) (cnt := cnt) (per := nI pn) (cng := cng) (msk := msk) h4
                exact W.iret (v := (-1)) hx hb hr (fun t ht hW => ⟨⟨(-1), (), rfl, by rw [rt_un_eq hrl hpl hs hc, if_pos hz, hu, if_pos (rt_nleL (fun h => c_146 ((lg_cmp_le _ _).mpr h)))], by rw [ht]; exact hP, va_K.moved hW.alike hK, hD⟩, hS.F ht⟩) hS.2.2 dX1_until_155
          · refine lp_M_until (f := f) (g := g) (msk := msk) (sr := sr) (en := en) (rn := rn) (kn := kn) hx hb hts hown hK hP h32 h4 (fun ls hl => ?_) (en - kn) (rt_timM sr cng (nI pn) cnt) (by have := hc.1; omega) rfl ls (by rw [show kn + (en - kn) = en by have := hc.1; omega]; exact lv_sub hl [1, 2, 0] rfl)
            refine lv_aload_n hx hb dX1_until_135 rfl (lv_at hl 0 rfl) ?_
            refine va_get (D := (dC, dI)) (ci := 1) (v := .int (nI rn)) (C := RX1) (T := TX1) (N := 14) hx hb hts (fun _ h => List.mem_cons_of_mem _ (List.mem_append_right _ h)) hown hK hP 0 rfl rfl 1 (by decide) (hts (.fieldLink RX1 29 "RetiredTimerModel" "retired" "I") (by decide +kernel)) (fun _ h9 => h9) rfl dX1_until_136 ?_
            refine lv_i2l (v := (nI rn).toInt64) hx hb dX1_until_139 rfl ?_
            refine lv_lload_n hx hb dX1_until_140 rfl (lv_at hl 1 rfl) ?_
            refine lv_ladd hx hb dX1_until_141 ?_
            refine lv_ldc2 (v := 2147483647) hx hb hown (hts (.constantLong RX1 73 2147483647) (by decide +kernel)) dX1_until_142 ?_
            refine W.lcmp hx hb dX1_until_145 ?_
            refine lv_if_le (tgt := 153) hx hb dX1_until_146 (by decide) (fun c_146 => ?_) (fun c_146 => ?_)
            · refine lv_lload_n hx hb dX1_until_153 rfl (lv_at hl 1 rfl) ?_
              refine lv_l2i (v := (rt_ml f g (nI rn) msk kn (en - kn) (rt_timM sr cng (nI pn) cnt)).toInt32) hx hb dX1_until_154 rfl ?_
              have hz := rt_dueLe hw_6 c_9
              have hu := rt_unM_n (f := f) (g := g) (e := en) (r := rn) (k := kn) (cnt := cnt) (per := nI pn) (cng := cng) (msk := msk) h4
              exact W.iret (v := (rt_ml f g (nI rn) msk kn (en - kn) (rt_timM sr cng (nI pn) cnt)).toInt32) hx hb hr (fun t ht hW => ⟨⟨(rt_ml f g (nI rn) msk kn (en - kn) (rt_timM sr cng (nI pn) cnt)).toInt32, (), rfl, by rw [rt_un_eq hrl hpl hs hc, if_pos hz, hu, if_neg (rt_geL ((lg_cmp_le _ _).mp c_146))], by rw [ht]; exact hP, va_K.moved hW.alike hK, hD⟩, hS.F ht⟩) hS.2.2 dX1_until_155
            · refine lv_iconst (v := -1) hx hb dX1_until_149 (by decide) ?_
              refine lv_goto (tgt := 155) hx hb dX1_until_150 (by decide) ?_
              have hz := rt_dueLe hw_6 c_9
              have hu := rt_unM_n (f := f) (g := g) (e := en) (r := rn) (k := kn) (cnt := cnt) (per := nI pn) (cng := cng) (msk := msk) h4
              exact W.iret (v := (-1)) hx hb hr (fun t ht hW => ⟨⟨(-1), (), rfl, by rw [rt_un_eq hrl hpl hs hc, if_pos hz, hu, if_pos (rt_nleL (fun h => c_146 ((lg_cmp_le _ _).mpr h)))], by rw [ht]; exact hP, va_K.moved hW.alike hK, hD⟩, hS.F ht⟩) hS.2.2 dX1_until_155
        · refine lv_lload_n hx hb dX1_until_52 rfl (lv_at hl 0 rfl) ?_
          refine lv_goto (tgt := 61) hx hb dX1_until_53 (by decide) ?_
          refine lv_lstore_n (lv' := [(1, .long (((nI pn).toInt64) - cnt.toInt64)), (3, .long (((nI pn).toInt64) - cnt.toInt64)), (0, .ref h0)]) hx hb dX1_until_61 rfl hl (by decide) rfl (fun ls hl => ?_)
          have et : rt_timM sr cng (nI pn) cnt = ((nI pn).toInt64) - cnt.toInt64 := (if_neg (fun h => h.elim c_24 c_31)).trans (if_pos (rt_nleL (fun h => c_49 ((lg_cmp_le _ _).mpr h))))
          have hl : lv_has ls 6 [(0, .ref h0), (1, .long (rt_timM sr cng (nI pn) cnt))] := by rw [et]; exact lv_sub hl [2, 0] rfl
          refine lv_aload_n hx hb dX1_until_62 rfl (lv_at hl 0 rfl) ?_
          refine va_get (D := (dC, dI)) (ci := 1) (v := .int (nI en)) (C := RX1) (T := TX1) (N := 14) hx hb hts (fun _ h => List.mem_cons_of_mem _ (List.mem_append_right _ h)) hown hK hP 0 rfl rfl 12 (by decide) (hts (.fieldLink RX1 26 "RetiredTimerModel" "entries" "I") (by decide +kernel)) (fun _ h9 => h9) rfl dX1_until_63 ?_
          refine lv_iconst (v := 1) hx hb dX1_until_66 (by decide) ?_
          refine lv_isub hx hb dX1_until_67 ?_
          refine lv_istore_n (lv' := [(3, .int ((nI en) - 1)), (0, .ref h0), (1, .long (rt_timM sr cng (nI pn) cnt))]) hx hb dX1_until_68 rfl hl (by decide) rfl (fun ls hl => ?_)
          by_cases h4 : sr &&& 4 = 0
          · refine lv_iload_n hx hb dX1_until_69 rfl (lv_at hl 0 rfl) ?_
            refine lv_aload_n hx hb dX1_until_70 rfl (lv_at hl 1 rfl) ?_
            refine va_get (D := (dC, dI)) (ci := 1) (v := .int (nI kn)) (C := RX1) (T := TX1) (N := 14) hx hb hts (fun _ h => List.mem_cons_of_mem _ (List.mem_append_right _ h)) hown hK hP 0 rfl rfl 13 (by decide) (hts (.fieldLink RX1 23 "RetiredTimerModel" "come" "I") (by decide +kernel)) (fun _ h9 => h9) rfl dX1_until_71 ?_
            refine lv_icmp_lt (tgt := 135) hx hb dX1_until_74 (by decide) (fun c_74 => ?_) (fun c_74 => ?_)
            · refine lv_aload_n hx hb dX1_until_135 rfl (lv_at hl 1 rfl) ?_
              refine va_get (D := (dC, dI)) (ci := 1) (v := .int (nI rn)) (C := RX1) (T := TX1) (N := 14) hx hb hts (fun _ h => List.mem_cons_of_mem _ (List.mem_append_right _ h)) hown hK hP 0 rfl rfl 1 (by decide) (hts (.fieldLink RX1 29 "RetiredTimerModel" "retired" "I") (by decide +kernel)) (fun _ h9 => h9) rfl dX1_until_136 ?_
              refine lv_i2l (v := (nI rn).toInt64) hx hb dX1_until_139 rfl ?_
              refine lv_lload_n hx hb dX1_until_140 rfl (lv_at hl 2 rfl) ?_
              refine lv_ladd hx hb dX1_until_141 ?_
              refine lv_ldc2 (v := 2147483647) hx hb hown (hts (.constantLong RX1 73 2147483647) (by decide +kernel)) dX1_until_142 ?_
              refine W.lcmp hx hb dX1_until_145 ?_
              refine lv_if_le (tgt := 153) hx hb dX1_until_146 (by decide) (fun c_146 => ?_) (fun c_146 => ?_)
              · refine lv_lload_n hx hb dX1_until_153 rfl (lv_at hl 2 rfl) ?_
                refine lv_l2i (v := (rt_timM sr cng (nI pn) cnt).toInt32) hx hb dX1_until_154 rfl ?_
                have hz := rt_dueLe hw_6 c_9
                have hu := rt_unM_z (f := f) (g := g) (e := en) (r := rn) (k := kn) (cnt := cnt) (per := nI pn) (cng := cng) (msk := msk) h4
                exact W.iret (v := (rt_timM sr cng (nI pn) cnt).toInt32) hx hb hr (fun t ht hW => ⟨⟨(rt_timM sr cng (nI pn) cnt).toInt32, (), rfl, by rw [rt_un_eq hrl hpl hs hc, if_pos hz, hu, if_neg (rt_geL ((lg_cmp_le _ _).mp c_146))], by rw [ht]; exact hP, va_K.moved hW.alike hK, hD⟩, hS.F ht⟩) hS.2.2 dX1_until_155
              · refine lv_iconst (v := -1) hx hb dX1_until_149 (by decide) ?_
                refine lv_goto (tgt := 155) hx hb dX1_until_150 (by decide) ?_
                have hz := rt_dueLe hw_6 c_9
                have hu := rt_unM_z (f := f) (g := g) (e := en) (r := rn) (k := kn) (cnt := cnt) (per := nI pn) (cng := cng) (msk := msk) h4
                exact W.iret (v := (-1)) hx hb hr (fun t ht hW => ⟨⟨(-1), (), rfl, by rw [rt_un_eq hrl hpl hs hc, if_pos hz, hu, if_pos (rt_nleL (fun h => c_146 ((lg_cmp_le _ _).mpr h)))], by rw [ht]; exact hP, va_K.moved hW.alike hK, hD⟩, hS.F ht⟩) hS.2.2 dX1_until_155
            · refine lv_aload_n hx hb dX1_until_77 rfl (lv_at hl 1 rfl) ?_
              refine va_get (D := (dC, dI)) (ci := 1) (v := .int sr) (C := RX1) (T := TX1) (N := 14) hx hb hts (fun _ h => List.mem_cons_of_mem _ (List.mem_append_right _ h)) hown hK hP 0 rfl rfl 7 (by decide) (hts (.fieldLink RX1 7 "RetiredTimerModel" "sr" "I") (by decide +kernel)) (fun _ h9 => h9) rfl dX1_until_78 ?_
              refine lv_iconst (v := 4) hx hb dX1_until_81 (by decide) ?_
              refine lv_iand hx hb dX1_until_82 ?_
              refine lv_if_eq (tgt := 135) hx hb dX1_until_83 (by decide) (fun c_83 => ?_) (fun c_83 => absurd h4 c_83)
              refine lv_aload_n hx hb dX1_until_135 rfl (lv_at hl 1 rfl) ?_
              refine va_get (D := (dC, dI)) (ci := 1) (v := .int (nI rn)) (C := RX1) (T := TX1) (N := 14) hx hb hts (fun _ h => List.mem_cons_of_mem _ (List.mem_append_right _ h)) hown hK hP 0 rfl rfl 1 (by decide) (hts (.fieldLink RX1 29 "RetiredTimerModel" "retired" "I") (by decide +kernel)) (fun _ h9 => h9) rfl dX1_until_136 ?_
              refine lv_i2l (v := (nI rn).toInt64) hx hb dX1_until_139 rfl ?_
              refine lv_lload_n hx hb dX1_until_140 rfl (lv_at hl 2 rfl) ?_
              refine lv_ladd hx hb dX1_until_141 ?_
              refine lv_ldc2 (v := 2147483647) hx hb hown (hts (.constantLong RX1 73 2147483647) (by decide +kernel)) dX1_until_142 ?_
              refine W.lcmp hx hb dX1_until_145 ?_
              refine lv_if_le (tgt := 153) hx hb dX1_until_146 (by decide) (fun c_146 => ?_) (fun c_146 => ?_)
              · refine lv_lload_n hx hb dX1_until_153 rfl (lv_at hl 2 rfl) ?_
                refine lv_l2i (v := (rt_timM sr cng (nI pn) cnt).toInt32) hx hb dX1_until_154 rfl ?_
                have hz := rt_dueLe hw_6 c_9
                have hu := rt_unM_z (f := f) (g := g) (e := en) (r := rn) (k := kn) (cnt := cnt) (per := nI pn) (cng := cng) (msk := msk) h4
                exact W.iret (v := (rt_timM sr cng (nI pn) cnt).toInt32) hx hb hr (fun t ht hW => ⟨⟨(rt_timM sr cng (nI pn) cnt).toInt32, (), rfl, by rw [rt_un_eq hrl hpl hs hc, if_pos hz, hu, if_neg (rt_geL ((lg_cmp_le _ _).mp c_146))], by rw [ht]; exact hP, va_K.moved hW.alike hK, hD⟩, hS.F ht⟩) hS.2.2 dX1_until_155
              · refine lv_iconst (v := -1) hx hb dX1_until_149 (by decide) ?_
                refine lv_goto (tgt := 155) hx hb dX1_until_150 (by decide) ?_
                have hz := rt_dueLe hw_6 c_9
                have hu := rt_unM_z (f := f) (g := g) (e := en) (r := rn) (k := kn) (cnt := cnt) (per := nI pn) (cng := cng) (msk := msk) h4
                exact W.iret (v := (-1)) hx hb hr (fun t ht hW => ⟨⟨(-1), (), rfl, by rw [rt_un_eq hrl hpl hs hc, if_pos hz, hu, if_pos (rt_nleL (fun h => c_146 ((lg_cmp_le _ _).mpr h)))], by rw [ht]; exact hP, va_K.moved hW.alike hK, hD⟩, hS.F ht⟩) hS.2.2 dX1_until_155
          · refine lp_M_until (f := f) (g := g) (msk := msk) (sr := sr) (en := en) (rn := rn) (kn := kn) hx hb hts hown hK hP h32 h4 (fun ls hl => ?_) (en - kn) (rt_timM sr cng (nI pn) cnt) (by have := hc.1; omega) rfl ls (by rw [show kn + (en - kn) = en by have := hc.1; omega]; exact lv_sub hl [1, 2, 0] rfl)
            refine lv_aload_n hx hb dX1_until_135 rfl (lv_at hl 0 rfl) ?_
            refine va_get (D := (dC, dI)) (ci := 1) (v := .int (nI rn)) (C := RX1) (T := TX1) (N := 14) hx hb hts (fun _ h => List.mem_cons_of_mem _ (List.mem_append_right _ h)) hown hK hP 0 rfl rfl 1 (by decide) (hts (.fieldLink RX1 29 "RetiredTimerModel" "retired" "I") (by decide +kernel)) (fun _ h9 => h9) rfl dX1_until_136 ?_
            refine lv_i2l (v := (nI rn).toInt64) hx hb dX1_until_139 rfl ?_
            refine lv_lload_n hx hb dX1_until_140 rfl (lv_at hl 1 rfl) ?_
            refine lv_ladd hx hb dX1_until_141 ?_
            refine lv_ldc2 (v := 2147483647) hx hb hown (hts (.constantLong RX1 73 2147483647) (by decide +kernel)) dX1_until_142 ?_
            refine W.lcmp hx hb dX1_until_145 ?_
            refine lv_if_le (tgt := 153) hx hb dX1_until_146 (by decide) (fun c_146 => ?_) (fun c_146 => ?_)
            · refine lv_lload_n hx hb dX1_until_153 rfl (lv_at hl 1 rfl) ?_
              refine lv_l2i (v := (rt_ml f g (nI rn) msk kn (en - kn) (rt_timM sr cng (nI pn) cnt)).toInt32) hx hb dX1_until_154 rfl ?_
              have hz := rt_dueLe hw_6 c_9
              have hu := rt_unM_n (f := f) (g := g) (e := en) (r := rn) (k := kn) (cnt := cnt) (per := nI pn) (cng := cng) (msk := msk) h4
              exact W.iret (v := (rt_ml f g (nI rn) msk kn (en - kn) (rt_timM sr cng (nI pn) cnt)).toInt32) hx hb hr (fun t ht hW => ⟨⟨(rt_ml f g (nI rn) msk kn (en - kn) (rt_timM sr cng (nI pn) cnt)).toInt32, (), rfl, by rw [rt_un_eq hrl hpl hs hc, if_pos hz, hu, if_neg (rt_geL ((lg_cmp_le _ _).mp c_146))], by rw [ht]; exact hP, va_K.moved hW.alike hK, hD⟩, hS.F ht⟩) hS.2.2 dX1_until_155
            · refine lv_iconst (v := -1) hx hb dX1_until_149 (by decide) ?_
              refine lv_goto (tgt := 155) hx hb dX1_until_150 (by decide) ?_
              have hz := rt_dueLe hw_6 c_9
              have hu := rt_unM_n (f := f) (g := g) (e := en) (r := rn) (k := kn) (cnt := cnt) (per := nI pn) (cng := cng) (msk := msk) h4
              exact W.iret (v := (-1)) hx hb hr (fun t ht hW => ⟨⟨(-1), (), rfl, by rw [rt_un_eq hrl hpl hs hc, if_pos hz, hu, if_pos (rt_nleL (fun h => c_146 ((lg_cmp_le _ _).mpr h)))], by rw [ht]; exact hP, va_K.moved hW.alike hK, hD⟩, hS.F ht⟩) hS.2.2 dX1_until_155
  · refine lv_iconst (v := 0) hx hb dX1_until_12 (by decide) ?_
    have hz := rt_dueGt hw_6 c_9
    exact W.iret (v := 0) hx hb hr (fun t ht hW => ⟨⟨0, (), rfl, by rw [rt_un_eq hrl hpl hs hc, if_neg hz], by rw [ht]; exact hP, va_K.moved hW.alike hK, hD⟩, hS.F ht⟩) hS.2.2 dX1_until_13
