set_option maxHeartbeats 4000000 in
set_option maxRecDepth 100000 in
theorem law_loop {p : Program} {l : Launch} {e0 : Env} {s : State} {m : MethodId} {below : List Frame} {meth : Method} {c : Code} {dC : Nat → ClassId} {dI : Nat → Nat → Nat} {b L : Nat} {xs : Nat → Int32} (hL : L ≤ 2048) (C0 : lw_At p s m meth c b L xs) {q0 q1 q2 q3 q4 q5 : Nat} {k1 k2 k3 k4 : ClassId} (hK : va_K (dC, dI) vwCl [(k1, .int), (k2, .int), (k3, .int), (k4, .int)] s) :
    ∀ (n i : Nat), i ≤ L → L + 1 ≤ i + n → ∀ (f g : Nat → Int32) (en rn kn pn : Nat) (cnt cng pnd msk sr sav tkn : Int32), rt_Inv f en rn kn pn → ∀ (H : Heap) (locs : List Loc) (ls : Array Slot), va_P (dC, dI) vwCl (rt_xw q0 q1 q2 k1 k2 f g (nI en) (nI rn) cnt (nI pn) cng pnd msk sr sav tkn ++ rt_mw q3 q4 q5 k3 k4 f g (nI en) (nI rn) cnt (nI pn) cng pnd msk sr sav tkn (nI kn)) H → va_D (fun q : Nat => s.heap.size ≤ q) (rt_xw q0 q1 q2 k1 k2 f g (nI en) (nI rn) cnt (nI pn) cng pnd msk sr sav tkn ++ rt_mw q3 q4 q5 k3 k4 f g (nI en) (nI rn) cnt (nI pn) cng pnd msk sr sav tkn (nI kn)) → va_S (fun q : Nat => s.heap.size ≤ q) s.heap H locs → lv_has ls 4 [(0, .ref b), (1, .ref q0), (2, .ref q3), (3, .int (nI i))] → W p l e0 room_1 s m #[Value.ref b] below meth c H locs 6 154 (lw_Z below #[Value.ref b] s) (F0 m 18 ls []) := by
  have C1 := C0
  obtain ⟨hx, hb, hr, hml, hown, htb, hX, hbl, hlocks, hgv⟩ := C0
  have hts := fun w h => htb w (wsL_law_in w h)
  have hA : ∀ q : Nat, s.heap.size ≤ q → (fun q : Nat => s.heap.size ≤ q) q := fun _ h => h
  have hbA : ¬ (fun q : Nat => s.heap.size ≤ q) b := Nat.not_le.mpr hbl
  intro n
  induction n with
  | zero =>
    intro i h1 h2
    exact absurd h2 (by omega)
  | succ n ih =>
    intro i hil hin f g en rn kn pn cnt cng pnd msk sr sav tkn hI H locs ls hP hD hS hl
    refine lv_iload_n hx hb dL_law_18 rfl (lv_at hl 3 rfl) ?_
    refine lv_aload_n hx hb dL_law_19 rfl (lv_at hl 0 rfl) ?_
    refine va_slen hx hb hX hbl hbA hS dL_law_20 ?_
    refine lv_iconst (v := 4) hx hb dL_law_21 (by decide) ?_
    refine lv_isub hx hb dL_law_22 ?_
    refine lv_icmp_gt (tgt := 441) hx hb dL_law_23 (by decide) (fun c_23 => ?_) (fun c_23 => ?_)
    · refine lv_iconst (v := 1) hx hb dL_law_441 (by decide) ?_
      refine va_forget (fun q hq => hS.2.2 q hq) ?_
      refine W.widen (k := 6) (n := 154) (Nat.le_refl _) (Nat.le_refl _) ?_
      exact lw_ret hx hb hr hlocks dL_law_442
    · have hi : i + 4 ≤ L := rt_go hil hL c_23
      refine lv_aload_n hx hb dL_law_26 rfl (lv_at hl 0 rfl) ?_
      refine lv_iload_n hx hb dL_law_27 rfl (lv_at hl 3 rfl) ?_
      refine va_sld hx hb hX hbl hbA hS (rt_in0 hi hL) dL_law_28 ?_
      refine lv_bipush (v := 15) hx hb dL_law_29 (by decide) ?_
      refine lv_iand hx hb dL_law_31 ?_
      obtain ⟨j, hj, ej⟩ := pk_andE (xs (nI i).toNatClampNeg) (m := 15) 4 (by decide)
      rw [ej]
      have kk : ∀ (f g : Nat → Int32) (en rn kn pn : Nat) (cnt cng pnd msk sr sav tkn : Int32), rt_Inv f en rn kn pn → ∀ (H : Heap) (locs : List Loc) (ls : Array Slot), va_P (dC, dI) vwCl (rt_xw q0 q1 q2 k1 k2 f g (nI en) (nI rn) cnt (nI pn) cng pnd msk sr sav tkn ++ rt_mw q3 q4 q5 k3 k4 f g (nI en) (nI rn) cnt (nI pn) cng pnd msk sr sav tkn (nI kn)) H → va_D (fun q : Nat => s.heap.size ≤ q) (rt_xw q0 q1 q2 k1 k2 f g (nI en) (nI rn) cnt (nI pn) cng pnd msk sr sav tkn ++ rt_mw q3 q4 q5 k3 k4 f g (nI en) (nI rn) cnt (nI pn) cng pnd msk sr sav tkn (nI kn)) → va_S (fun q : Nat => s.heap.size ≤ q) s.heap H locs → lv_has ls 4 [(0, .ref b), (1, .ref q0), (2, .ref q3), (3, .int (nI i))] → W p l e0 room_1 s m #[Value.ref b] below meth c H locs 6 154 (lw_Z below #[Value.ref b] s) (F0 m 435 ls []) := by
        intro f g en rn kn pn cnt cng pnd msk sr sav tkn hI H locs ls hP hD hS hl
        refine lv_iinc (v := nI i + 4) (lv' := [(3, .int (nI i + 4)), (0, .ref b), (1, .ref q0), (2, .ref q3)]) hx hb dL_law_435 hl (k := 3) rfl rfl (by decide) rfl (fun ls hl => ?_)
        refine lv_goto (tgt := 18) hx hb dL_law_438 (by decide) ?_
        exact ih (i + 4) (by omega) (by omega) f g en rn kn pn cnt cng pnd msk sr sav tkn hI H locs ls hP hD hS (by rw [show nI (i + 4) = nI i + 4 from (nI_add i 4).symm]; exact lv_sub hl [1, 2, 3, 0] rfl)
      rcases (show j = 0 ∨ j = 1 ∨ j = 2 ∨ j = 3 ∨ j = 4 ∨ j = 5 ∨ j = 6 ∨ j = 7 ∨ j = 8 ∨ j = 9 ∨ j = 10 ∨ j = 11 ∨ j = 12 ∨ j = 13 ∨ j = 14 ∨ j = 15 by omega) with rfl | rfl | rfl | rfl | rfl | rfl | rfl | rfl | rfl | rfl | rfl | rfl | rfl | rfl | rfl | rfl
      · refine lv_tableIn (off := 68) (tgt := 100) hx hb dL_law_32 (by decide +kernel) (by decide +kernel) (by decide +kernel) (by decide) ?_
        exact law_c0 hL C1 hK hi kk f g en rn kn pn cnt cng pnd msk sr sav tkn hI H locs ls hP hD hS hl
      · refine lv_tableIn (off := 101) (tgt := 133) hx hb dL_law_32 (by decide +kernel) (by decide +kernel) (by decide +kernel) (by decide) ?_
        exact law_c1 hL C1 hK hi kk f g en rn kn pn cnt cng pnd msk sr sav tkn hI H locs ls hP hD hS hl
      · refine lv_tableIn (off := 124) (tgt := 156) hx hb dL_law_32 (by decide +kernel) (by decide +kernel) (by decide +kernel) (by decide) ?_
        exact law_c2 hL C1 hK hi kk f g en rn kn pn cnt cng pnd msk sr sav tkn hI H locs ls hP hD hS hl
      · refine lv_tableIn (off := 137) (tgt := 169) hx hb dL_law_32 (by decide +kernel) (by decide +kernel) (by decide +kernel) (by decide) ?_
        exact law_c3 hL C1 hK hi kk f g en rn kn pn cnt cng pnd msk sr sav tkn hI H locs ls hP hD hS hl
      · refine lv_tableIn (off := 148) (tgt := 180) hx hb dL_law_32 (by decide +kernel) (by decide +kernel) (by decide +kernel) (by decide) ?_
        exact law_c4 hL C1 hK hi kk f g en rn kn pn cnt cng pnd msk sr sav tkn hI H locs ls hP hD hS hl
      · refine lv_tableIn (off := 169) (tgt := 201) hx hb dL_law_32 (by decide +kernel) (by decide +kernel) (by decide +kernel) (by decide) ?_
        exact law_c5 hL C1 hK hi kk f g en rn kn pn cnt cng pnd msk sr sav tkn hI H locs ls hP hD hS hl
      · refine lv_tableIn (off := 190) (tgt := 222) hx hb dL_law_32 (by decide +kernel) (by decide +kernel) (by decide +kernel) (by decide) ?_
        exact law_c6 hL C1 hK hi kk f g en rn kn pn cnt cng pnd msk sr sav tkn hI H locs ls hP hD hS hl
      · refine lv_tableIn (off := 263) (tgt := 295) hx hb dL_law_32 (by decide +kernel) (by decide +kernel) (by decide +kernel) (by decide) ?_
        exact law_c7 hL C1 hK hi kk f g en rn kn pn cnt cng pnd msk sr sav tkn hI H locs ls hP hD hS hl
      · refine lv_tableIn (off := 284) (tgt := 316) hx hb dL_law_32 (by decide +kernel) (by decide +kernel) (by decide +kernel) (by decide) ?_
        exact law_c8 hL C1 hK hi kk f g en rn kn pn cnt cng pnd msk sr sav tkn hI H locs ls hP hD hS hl
      · refine lv_tableIn (off := 295) (tgt := 327) hx hb dL_law_32 (by decide +kernel) (by decide +kernel) (by decide +kernel) (by decide) ?_
        exact law_c9 hL C1 hK hi kk f g en rn kn pn cnt cng pnd msk sr sav tkn hI H locs ls hP hD hS hl
      · refine lv_tableIn (off := 308) (tgt := 340) hx hb dL_law_32 (by decide +kernel) (by decide +kernel) (by decide +kernel) (by decide) ?_
        exact law_c10 hL C1 hK hi kk f g en rn kn pn cnt cng pnd msk sr sav tkn hI H locs ls hP hD hS hl
      · refine lv_tableIn (off := 331) (tgt := 363) hx hb dL_law_32 (by decide +kernel) (by decide +kernel) (by decide +kernel) (by decide) ?_
        exact law_c11 hL C1 hK hi kk f g en rn kn pn cnt cng pnd msk sr sav tkn hI H locs ls hP hD hS hl
      · refine lv_tableIn (off := 380) (tgt := 412) hx hb dL_law_32 (by decide +kernel) (by decide +kernel) (by decide +kernel) (by decide) ?_
        exact law_c12 hL C1 hK hi kk f g en rn kn pn cnt cng pnd msk sr sav tkn hI H locs ls hP hD hS hl
      · refine lv_tableOut (tgt := 435) hx hb dL_law_32 (by decide +kernel) (by decide) ?_
        exact kk f g en rn kn pn cnt cng pnd msk sr sav tkn hI H locs ls hP hD hS hl
      · refine lv_tableOut (tgt := 435) hx hb dL_law_32 (by decide +kernel) (by decide) ?_
        exact kk f g en rn kn pn cnt cng pnd msk sr sav tkn hI H locs ls hP hD hS hl
      · refine lv_tableOut (tgt := 435) hx hb dL_law_32 (by decide +kernel) (by decide) ?_
        exact kk f g en rn kn pn cnt cng pnd msk sr sav tkn hI H locs ls hP hD hS hl
