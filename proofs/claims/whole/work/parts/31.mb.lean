def F_X5_reached_L29 (z : Nat → Nat) (v : Nat → Int32) (f : Nat → Nat → Int32) (t day : Int32) (al : Int32) (ro : Nat) (bl : Int32) (k : Nat) : Nat → Int32 → Nat → Int32
  | 0, dl, g => dl
  | n29 + 1, dl, g =>
    if z 0 ≤ g then
      dl
    else
      if ((dl >>> ((nI k) &&& 31)) &&& 1) = 1 then
        if (((f 0 k) >>> ((nI g) &&& 31)) &&& 1) = 1 then
          if day = (-1) then
            F_X5_reached_L29 z v f t day al ro bl k n29 (dl ||| (1 <<< ((nI g) &&& 31))) (g + 1)
          else
            if F_X5_isAlive z v f (nI g) day = 0 then
              F_X5_reached_L29 z v f t day al ro bl k n29 dl (g + 1)
            else
              F_X5_reached_L29 z v f t day al ro bl k n29 (dl ||| (1 <<< ((nI g) &&& 31))) (g + 1)
        else
          F_X5_reached_L29 z v f t day al ro bl k n29 dl (g + 1)
      else
        dl
def F_X5_reached_L17 (z : Nat → Nat) (v : Nat → Int32) (f : Nat → Nat → Int32) (t day : Int32) (al : Int32) (ro : Nat) : Nat → Int32 → Nat → Int32
  | 0, bl, k => bl
  | n17 + 1, bl, k =>
    if z 0 ≤ k then
      bl
    else
      F_X5_reached_L17 z v f t day al ro n17 (F_X5_reached_L29 z v f t day al ro bl k (z 0 + 1) bl 0) (k + 1)
def F_X5_reached_L7 (z : Nat → Nat) (v : Nat → Int32) (f : Nat → Nat → Int32) (t day : Int32)  : Nat → Int32 → Nat → Int32
  | 0, al, ro => al
  | n7 + 1, al, ro =>
    if 12 ≤ ro then
      al
    else
      F_X5_reached_L7 z v f t day n7 (F_X5_reached_L17 z v f t day al ro (z 0 + 1) al 0) (ro + 1)
def F_X5_reached (z : Nat → Nat) (v : Nat → Int32) (f : Nat → Nat → Int32) (t day : Int32) : Int32 :=
  (F_X5_reached_L7 z v f t day (12 + 1) (1 <<< (t &&& 31)) 0)
set_option maxHeartbeats 4000000 in
set_option maxRecDepth 100000 in
theorem c_X5_reached (l : Launch) (dC : Nat → ClassId) (dI : Nat → Nat → Nat) (am : Nat → Nat) (cI cZ : ClassId) (th : Int32) (z : Nat → Nat) (v : Nat → Int32) (f : Nat → Nat → Int32) (t day : Int32) (hok : okM z v f) : Met l yX5_reached wsX5_reached ({ frames := 2, cells := 0, slots := 0, locals := 48 }) (va_Pc [.ref (am 0), .int t, .int day] (kM dC dI am cI cZ th z v f)) (vp_Si (fun r => r = F_X5_reached z v f t day)) 0 0 (fun _ => False) := by
  refine Met.ofW (cc := cX5_reached) (maxL := 7) (ret := (some .int)) (by decide) rfl ?_
  intro p e s m args below meth c s₁ B hml hv
  obtain ⟨rfl, hP, hK, hN⟩ := hv
  have hx := B.exec
  have hb := B.bytes
  have hr := B.returns
  have hts := atoms_spec (ws := wsX5_reached) B.pre
  have hown : s.vm.findClass RX5 = some m.cls := findClass_of_methodNamed B.named
  have hlocks := B.notSynchronized
  have hok9 := hok
  obtain ⟨hz0, hz1, hz2, hz3, hz4, hbz, hbs, hdp, hgv⟩ := hok9
  have hfl69 := hts (.fieldLink RX5 69 "TraderRightsModel" "traders" "I") (List.mem_of_getElem? (i := 1) rfl)
  have hfl7 := hts (.fieldLink RX5 7 "TraderRightsModel" "groupsOf" "[I") (List.mem_of_getElem? (i := 2) rfl)
  have hinX5 : ∀ w ∈ u_ws RX5 TX5 25, w ∈ wsX5_reached := fun w h => List.mem_cons_of_mem _ (List.mem_append_right _ h)
  have hl := lv_entry ([.ref (am 0), .int t, .int day]) (n := 7) (Nat.le_of_ble_eq_true rfl)
  rw [lg_entry_eq]
  generalize (lg_sl ([.ref (am 0), .int t, .int day]) ++ List.replicate (7 - (lg_sl ([.ref (am 0), .int t, .int day])).length) Slot.unset).toArray = ls at hl ⊢
  have hl : lv_has ls 7 [(0, .ref (am 0)), (1, .int t), (2, .int day)] := hl
  generalize hF : F_X5_reached z v f t day = R9
  generalize hQ9 : MQ below (vp_Si (fun r => r = R9)) _ s 0 0 (fun _ => False) = Q9
  rw [F_X5_reached] at hF
  refine lv_iconst (v := 1) hx hb dX5_reached_0 (by decide) ?_
  refine lv_iload_n hx hb dX5_reached_1 rfl (lv_at hl 1 rfl) ?_
  refine lv_ishl hx hb dX5_reached_2 ?_
  refine lv_istore_n (lv' := [(3, .int (1 <<< (t &&& 31))), (0, .ref (am 0)), (1, .int t), (2, .int day)]) hx hb dX5_reached_3 rfl hl (by decide) rfl (fun ls hl => ?_)
  refine lv_iconst (v := 0) hx hb dX5_reached_4 (by decide) ?_
  refine lv_istore (lv' := [(4, .int 0), (3, .int (1 <<< (t &&& 31))), (0, .ref (am 0)), (1, .int t), (2, .int day)]) hx hb dX5_reached_5 hl (by decide) rfl (fun ls hl => ?_)
  have lp7 : ∀ (n7 : Nat) (al : Int32) (ro : Nat) (ls : Array Slot), ro ≤ 12 → 12 < ro + n7 → lv_has ls 7 [(0, .ref (am 0)), (1, .int t), (2, .int day), (3, .int al), (4, .int (nI ro))] → (∀ ls : Array Slot, lv_has ls 7 [(0, .ref (am 0)), (1, .int t), (2, .int day), (3, .int (F_X5_reached_L7 z v f t day n7 al ro))] → W p l e (headSpec wsX5_reached ({ frames := 2, cells := 0, slots := 0, locals := 48 })).room s m ([.ref (am 0), .int t, .int day] : List Value).toArray below meth c s.heap [] 0 0 Q9 (F0 m 104 ls [])) → W p l e (headSpec wsX5_reached ({ frames := 2, cells := 0, slots := 0, locals := 48 })).room s m ([.ref (am 0), .int t, .int day] : List Value).toArray below meth c s.heap [] 0 0 Q9 (F0 m 7 ls []) := by
    intro n7
    induction n7 with
    | zero =>
      intro al ro ls hk7 hn7
      exact absurd hn7 (by omega)
    | succ n7 ih7 =>
      intro al ro ls hk7 hn7 hl hq7
      generalize hF7 : F_X5_reached_L7 z v f t day (n7 + 1) al ro = R7 at hq7
      rw [F_X5_reached_L7] at hF7
      refine lv_iload hx hb dX5_reached_7 (lv_at hl 4 rfl) ?_
      refine lv_bipush (v := 12) hx hb dX5_reached_9 (by decide) ?_
      refine lv_icmp_ge (tgt := 104) hx hb dX5_reached_11 (by decide) (fun c1 => ?_) (fun c1 => ?_)
      · have c1 : 12 ≤ ro := (nI_leI (a := 12) (b := ro) (by omega) (by omega)).mp c1
        rw [if_pos c1] at hF7
        subst hF7
        exact hq7 ls (lv_sub hl [0, 1, 2, 3] rfl)
      · have c1 : ¬ 12 ≤ ro := fun h9 => c1 ((nI_leI (a := 12) (b := ro) (by omega) (by omega)).mpr h9)
        rw [if_neg c1] at hF7
        refine lv_iconst (v := 0) hx hb dX5_reached_14 (by decide) ?_
        refine lv_istore (lv' := [(5, .int 0), (0, .ref (am 0)), (1, .int t), (2, .int day), (3, .int al), (4, .int (nI ro))]) hx hb dX5_reached_15 hl (by decide) rfl (fun ls hl => ?_)
        have lp17 : ∀ (n17 : Nat) (bl : Int32) (k : Nat) (ls : Array Slot), k ≤ z 0 → z 0 < k + n17 → lv_has ls 7 [(0, .ref (am 0)), (1, .int t), (2, .int day), (4, .int (nI ro)), (3, .int bl), (5, .int (nI k))] → (∀ ls : Array Slot, lv_has ls 7 [(0, .ref (am 0)), (1, .int t), (2, .int day), (4, .int (nI ro)), (3, .int (F_X5_reached_L17 z v f t day al ro n17 bl k))] → W p l e (headSpec wsX5_reached ({ frames := 2, cells := 0, slots := 0, locals := 48 })).room s m ([.ref (am 0), .int t, .int day] : List Value).toArray below meth c s.heap [] 0 0 Q9 (F0 m 98 ls [])) → W p l e (headSpec wsX5_reached ({ frames := 2, cells := 0, slots := 0, locals := 48 })).room s m ([.ref (am 0), .int t, .int day] : List Value).toArray below meth c s.heap [] 0 0 Q9 (F0 m 17 ls []) := by
          intro n17
          induction n17 with
          | zero =>
            intro bl k ls hk17 hn17
            exact absurd hn17 (by omega)
          | succ n17 ih17 =>
            intro bl k ls hk17 hn17 hl hq17
            generalize hF17 : F_X5_reached_L17 z v f t day al ro (n17 + 1) bl k = R17 at hq17
            rw [F_X5_reached_L17] at hF17
            refine lv_iload hx hb dX5_reached_17 (lv_at hl 5 rfl) ?_
            refine lv_aload_n hx hb dX5_reached_19 rfl (lv_at hl 0 rfl) ?_
            refine va_get (D := (dC, dI)) (ci := 5) (v := .int (nI (z 0))) (C := RX5) (T := TX5) (N := 25) hx hb hts hinX5 hown hK hP 0 rfl rfl 1 (by decide) hfl69 (fun _ h9 => h9) rfl dX5_reached_20 ?_
            refine lv_icmp_ge (tgt := 98) hx hb dX5_reached_23 (by decide) (fun c2 => ?_) (fun c2 => ?_)
            · have c2 : z 0 ≤ k := (nI_leI (a := z 0) (b := k) (by omega) (by omega)).mp c2
              rw [if_pos c2] at hF17
              subst hF17
              exact hq17 ls (lv_sub hl [0, 1, 2, 3, 4] rfl)
            · have c2 : ¬ z 0 ≤ k := fun h9 => c2 ((nI_leI (a := z 0) (b := k) (by omega) (by omega)).mpr h9)
              rw [if_neg c2] at hF17
              refine lv_iconst (v := 0) hx hb dX5_reached_26 (by decide) ?_
              refine lv_istore (lv' := [(6, .int 0), (0, .ref (am 0)), (1, .int t), (2, .int day), (4, .int (nI ro)), (3, .int bl), (5, .int (nI k))]) hx hb dX5_reached_27 hl (by decide) rfl (fun ls hl => ?_)
              have lp29 : ∀ (n29 : Nat) (dl : Int32) (g : Nat) (ls : Array Slot), g ≤ z 0 → z 0 < g + n29 → lv_has ls 7 [(0, .ref (am 0)), (1, .int t), (2, .int day), (4, .int (nI ro)), (5, .int (nI k)), (3, .int dl), (6, .int (nI g))] → (∀ ls : Array Slot, lv_has ls 7 [(0, .ref (am 0)), (1, .int t), (2, .int day), (4, .int (nI ro)), (5, .int (nI k)), (3, .int (F_X5_reached_L29 z v f t day al ro bl k n29 dl g))] → W p l e (headSpec wsX5_reached ({ frames := 2, cells := 0, slots := 0, locals := 48 })).room s m ([.ref (am 0), .int t, .int day] : List Value).toArray below meth c s.heap [] 0 0 Q9 (F0 m 92 ls [])) → W p l e (headSpec wsX5_reached ({ frames := 2, cells := 0, slots := 0, locals := 48 })).room s m ([.ref (am 0), .int t, .int day] : List Value).toArray below meth c s.heap [] 0 0 Q9 (F0 m 29 ls []) := by
                intro n29
                induction n29 with
                | zero =>
                  intro dl g ls hk29 hn29
                  exact absurd hn29 (by omega)
                | succ n29 ih29 =>
                  intro dl g ls hk29 hn29 hl hq29
                  generalize hF29 : F_X5_reached_L29 z v f t day al ro bl k (n29 + 1) dl g = R29 at hq29
                  rw [F_X5_reached_L29] at hF29
                  refine lv_iload hx hb dX5_reached_29 (lv_at hl 6 rfl) ?_
                  refine lv_aload_n hx hb dX5_reached_31 rfl (lv_at hl 0 rfl) ?_
                  refine va_get (D := (dC, dI)) (ci := 5) (v := .int (nI (z 0))) (C := RX5) (T := TX5) (N := 25) hx hb hts hinX5 hown hK hP 0 rfl rfl 1 (by decide) hfl69 (fun _ h9 => h9) rfl dX5_reached_32 ?_
                  refine lv_icmp_ge (tgt := 92) hx hb dX5_reached_35 (by decide) (fun c3 => ?_) (fun c3 => ?_)
                  · have c3 : z 0 ≤ g := (nI_leI (a := z 0) (b := g) (by omega) (by omega)).mp c3
                    rw [if_pos c3] at hF29
                    subst hF29
                    exact hq29 ls (lv_sub hl [0, 1, 2, 3, 4, 5] rfl)
                  · have c3 : ¬ z 0 ≤ g := fun h9 => c3 ((nI_leI (a := z 0) (b := g) (by omega) (by omega)).mpr h9)
                    rw [if_neg c3] at hF29
                    refine lv_iload_n hx hb dX5_reached_38 rfl (lv_at hl 5 rfl) ?_
                    refine lv_iload hx hb dX5_reached_39 (lv_at hl 4 rfl) ?_
                    refine lv_ishr hx hb dX5_reached_41 ?_
                    refine lv_iconst (v := 1) hx hb dX5_reached_42 (by decide) ?_
                    refine lv_iand hx hb dX5_reached_43 ?_
                    refine lv_iconst (v := 1) hx hb dX5_reached_44 (by decide) ?_
                    refine lv_icmp_ne (tgt := 92) hx hb dX5_reached_45 (by decide) (fun c4 => ?_) (fun c4 => ?_)
                    · rw [if_neg c4] at hF29
                      subst hF29
                      exact hq29 ls (lv_sub hl [0, 1, 2, 3, 4, 5] rfl)
                    · rw [if_pos c4] at hF29
                      refine lv_aload_n hx hb dX5_reached_48 rfl (lv_at hl 0 rfl) ?_
                      refine va_get (D := (dC, dI)) (ci := 5) (v := .ref (am 1)) (C := RX5) (T := TX5) (N := 25) hx hb hts hinX5 hown hK hP 0 rfl rfl 6 (by decide) hfl7 (fun _ h9 => h9) rfl dX5_reached_49 ?_
                      refine lv_iload hx hb dX5_reached_52 (lv_at hl 4 rfl) ?_
                      refine xa_ild hx hb hK hP 1 0 rfl rfl (by omega) (by decide) dX5_reached_54 ?_
                      refine lv_iload hx hb dX5_reached_55 (lv_at hl 6 rfl) ?_
                      refine lv_ishr hx hb dX5_reached_57 ?_
                      refine lv_iconst (v := 1) hx hb dX5_reached_58 (by decide) ?_
                      refine lv_iand hx hb dX5_reached_59 ?_
                      refine lv_iconst (v := 1) hx hb dX5_reached_60 (by decide) ?_
                      refine lv_icmp_ne (tgt := 86) hx hb dX5_reached_61 (by decide) (fun c5 => ?_) (fun c5 => ?_)
                      · rw [if_neg c5] at hF29
                        refine lv_iinc (v := nI (g + 1)) (lv' := [(6, .int (nI (g + 1))), (0, .ref (am 0)), (1, .int t), (2, .int day), (4, .int (nI ro)), (5, .int (nI k)), (3, .int dl)]) hx hb dX5_reached_86 hl (k := 6) rfl (xi_inc _) (by decide) rfl (fun ls hl => ?_)
                        refine lv_goto (tgt := 29) hx hb dX5_reached_89 (by decide) ?_
                        exact ih29 dl (g + 1) ls (by omega) (by omega) (lv_sub hl [1, 2, 3, 4, 5, 6, 0] rfl) (by rw [hF29]; exact hq29)
                      · rw [if_pos c5] at hF29
                        refine lv_iload_n hx hb dX5_reached_64 rfl (lv_at hl 2 rfl) ?_
                        refine lv_iconst (v := (-1)) hx hb dX5_reached_65 (by decide) ?_
                        refine lv_icmp_eq (tgt := 79) hx hb dX5_reached_66 (by decide) (fun c6 => ?_) (fun c6 => ?_)
                        · rw [if_pos c6] at hF29
                          refine lv_iload_n hx hb dX5_reached_79 rfl (lv_at hl 5 rfl) ?_
                          refine lv_iconst (v := 1) hx hb dX5_reached_80 (by decide) ?_
                          refine lv_iload hx hb dX5_reached_81 (lv_at hl 6 rfl) ?_
                          refine lv_ishl hx hb dX5_reached_83 ?_
                          refine lv_ior hx hb dX5_reached_84 ?_
                          refine lv_istore_n (lv' := [(3, .int (dl ||| (1 <<< ((nI g) &&& 31)))), (0, .ref (am 0)), (1, .int t), (2, .int day), (4, .int (nI ro)), (5, .int (nI k)), (6, .int (nI g))]) hx hb dX5_reached_85 rfl hl (by decide) rfl (fun ls hl => ?_)
                          refine lv_iinc (v := nI (g + 1)) (lv' := [(6, .int (nI (g + 1))), (3, .int (dl ||| (1 <<< ((nI g) &&& 31)))), (0, .ref (am 0)), (1, .int t), (2, .int day), (4, .int (nI ro)), (5, .int (nI k))]) hx hb dX5_reached_86 hl (k := 6) rfl (xi_inc _) (by decide) rfl (fun ls hl => ?_)
                          refine lv_goto (tgt := 29) hx hb dX5_reached_89 (by decide) ?_
                          exact ih29 (dl ||| (1 <<< ((nI g) &&& 31))) (g + 1) ls (by omega) (by omega) (lv_sub hl [2, 3, 4, 5, 6, 1, 0] rfl) (by rw [hF29]; exact hq29)
                        · rw [if_neg c6] at hF29
                          refine lv_aload_n hx hb dX5_reached_69 rfl (lv_at hl 0 rfl) ?_
                          refine lv_iload hx hb dX5_reached_70 (lv_at hl 6 rfl) ?_
                          refine lv_iload_n hx hb dX5_reached_72 rfl (lv_at hl 2 rfl) ?_
                          refine vp_callSi (W.runV (As := [.int (nI g), .int day]) (rest := []) ⟨hx, hb, hml, hown, hts⟩ (c_X5_isAlive l dC dI am cI cZ th z v f (nI g) day hok (vp_in_nI (by omega) (by omega))) (cwV 2 hts gX5_reached_X5_isAlive rfl rfl rfl (by decide +kernel) ⟨Nat.le_of_ble_eq_true rfl, Nat.le_of_ble_eq_true rfl⟩) (preM (ci := 5) (q0 := 0) hP hK hN rfl rfl rfl) rfl rfl hl.1 rfl (lv_room (Nat.le_of_ble_eq_true rfl)) dX5_reached_73 ⟨Nat.zero_le _, Nat.zero_le _⟩) (fun r7 h9 => ?_)
                          have hr7 : r7 = F_X5_isAlive z v f (nI g) day := h9
                          try rw [← hr7] at hF
                          try rw [← hr7] at hF7
                          try rw [← hr7] at hF17
                          try rw [← hr7] at hF29
                          refine lv_if_eq (tgt := 86) hx hb dX5_reached_76 (by decide) (fun c8 => ?_) (fun c8 => ?_)
                          · rw [if_pos c8] at hF29
                            have c8f : F_X5_isAlive z v f (nI g) day = 0 := by rw [← hr7]; exact c8
                            refine lv_iinc (v := nI (g + 1)) (lv' := [(6, .int (nI (g + 1))), (0, .ref (am 0)), (1, .int t), (2, .int day), (4, .int (nI ro)), (5, .int (nI k)), (3, .int dl)]) hx hb dX5_reached_86 hl (k := 6) rfl (xi_inc _) (by decide) rfl (fun ls hl => ?_)
                            refine lv_goto (tgt := 29) hx hb dX5_reached_89 (by decide) ?_
                            exact ih29 dl (g + 1) ls (by omega) (by omega) (lv_sub hl [1, 2, 3, 4, 5, 6, 0] rfl) (by rw [hF29]; exact hq29)
                          · rw [if_neg c8] at hF29
                            have c8f : ¬ F_X5_isAlive z v f (nI g) day = 0 := by rw [← hr7]; exact c8
                            refine lv_iload_n hx hb dX5_reached_79 rfl (lv_at hl 5 rfl) ?_
                            refine lv_iconst (v := 1) hx hb dX5_reached_80 (by decide) ?_
                            refine lv_iload hx hb dX5_reached_81 (lv_at hl 6 rfl) ?_
                            refine lv_ishl hx hb dX5_reached_83 ?_
                            refine lv_ior hx hb dX5_reached_84 ?_
                            refine lv_istore_n (lv' := [(3, .int (dl ||| (1 <<< ((nI g) &&& 31)))), (0, .ref (am 0)), (1, .int t), (2, .int day), (4, .int (nI ro)), (5, .int (nI k)), (6, .int (nI g))]) hx hb dX5_reached_85 rfl hl (by decide) rfl (fun ls hl => ?_)
                            refine lv_iinc (v := nI (g + 1)) (lv' := [(6, .int (nI (g + 1))), (3, .int (dl ||| (1 <<< ((nI g) &&& 31)))), (0, .ref (am 0)), (1, .int t), (2, .int day), (4, .int (nI ro)), (5, .int (nI k))]) hx hb dX5_reached_86 hl (k := 6) rfl (xi_inc _) (by decide) rfl (fun ls hl => ?_)
                            refine lv_goto (tgt := 29) hx hb dX5_reached_89 (by decide) ?_
                            exact ih29 (dl ||| (1 <<< ((nI g) &&& 31))) (g + 1) ls (by omega) (by omega) (lv_sub hl [2, 3, 4, 5, 6, 1, 0] rfl) (by rw [hF29]; exact hq29)
              refine lp29 (z 0 + 1) bl 0 ls (by omega) (by omega) (lv_sub hl [1, 2, 3, 4, 6, 5, 0] rfl) (fun ls hl => ?_)
              obtain ⟨r9, hr9⟩ : ∃ y, y = (F_X5_reached_L29 z v f t day al ro bl k (z 0 + 1) bl 0) := ⟨_, rfl⟩
              rw [← hr9] at hl
              try rw [← hr9] at hF
              try rw [← hr9] at hF7
              try rw [← hr9] at hF17
              refine lv_iinc (v := nI (k + 1)) (lv' := [(5, .int (nI (k + 1))), (0, .ref (am 0)), (1, .int t), (2, .int day), (4, .int (nI ro)), (3, .int r9)]) hx hb dX5_reached_92 hl (k := 4) rfl (xi_inc _) (by decide) rfl (fun ls hl => ?_)
              refine lv_goto (tgt := 17) hx hb dX5_reached_95 (by decide) ?_
              exact ih17 r9 (k + 1) ls (by omega) (by omega) (lv_sub hl [1, 2, 3, 4, 5, 0] rfl) (by rw [hF17]; exact hq17)
        refine lp17 (z 0 + 1) al 0 ls (by omega) (by omega) (lv_sub hl [1, 2, 3, 5, 4, 0] rfl) (fun ls hl => ?_)
        obtain ⟨r10, hr10⟩ : ∃ y, y = (F_X5_reached_L17 z v f t day al ro (z 0 + 1) al 0) := ⟨_, rfl⟩
        rw [← hr10] at hl
        try rw [← hr10] at hF
        try rw [← hr10] at hF7
        refine lv_iinc (v := nI (ro + 1)) (lv' := [(4, .int (nI (ro + 1))), (0, .ref (am 0)), (1, .int t), (2, .int day), (3, .int r10)]) hx hb dX5_reached_98 hl (k := 3) rfl (xi_inc _) (by decide) rfl (fun ls hl => ?_)
        refine lv_goto (tgt := 7) hx hb dX5_reached_101 (by decide) ?_
        exact ih7 r10 (ro + 1) ls (by omega) (by omega) (lv_sub hl [1, 2, 3, 4, 0] rfl) (by rw [hF7]; exact hq7)
  refine lp7 (12 + 1) (1 <<< (t &&& 31)) 0 ls (by omega) (by omega) (lv_sub hl [2, 3, 4, 1, 0] rfl) (fun ls hl => ?_)
  obtain ⟨r11, hr11⟩ : ∃ y, y = (F_X5_reached_L7 z v f t day (12 + 1) (1 <<< (t &&& 31)) 0) := ⟨_, rfl⟩
  rw [← hr11] at hl
  try rw [← hr11] at hF
  refine lv_iload_n hx hb dX5_reached_104 rfl (lv_at hl 3 rfl) ?_
  subst hQ9
  exact W.iret hx hb hr (fun t ht hW => ⟨_, rfl, hF, ht⟩) (fun q h => by cases h) dX5_reached_105
def F_X5_has_L15 (z : Nat → Nat) (v : Nat → Int32) (f : Nat → Nat → Int32) (t a pl day : Int32)  (x5 : Int32) : Nat → Int32 → Nat → Int32
  | 0, on, k => on
  | n15 + 1, on, k =>
    if z 1 ≤ k then
      on
    else
      if f 5 k = a then
        if f 6 k = (-1) then
          if F_X5_in day (f 7 k) (f 8 k) = 0 then
            if on = 0 then
              F_X5_has_L15 z v f t a pl day x5 n15 0 (k + 1)
            else
              F_X5_has_L15 z v f t a pl day x5 n15 1 (k + 1)
          else
            if on = 0 then
              if ((x5 >>> ((f 4 k) &&& 31)) &&& 1) = 1 then
                F_X5_has_L15 z v f t a pl day x5 n15 1 (k + 1)
              else
                F_X5_has_L15 z v f t a pl day x5 n15 0 (k + 1)
            else
              F_X5_has_L15 z v f t a pl day x5 n15 1 (k + 1)
        else
          if f 6 k = pl then
            if F_X5_in day (f 7 k) (f 8 k) = 0 then
              if on = 0 then
                F_X5_has_L15 z v f t a pl day x5 n15 0 (k + 1)
              else
                F_X5_has_L15 z v f t a pl day x5 n15 1 (k + 1)
            else
              if on = 0 then
                if ((x5 >>> ((f 4 k) &&& 31)) &&& 1) = 1 then
                  F_X5_has_L15 z v f t a pl day x5 n15 1 (k + 1)
                else
                  F_X5_has_L15 z v f t a pl day x5 n15 0 (k + 1)
              else
                F_X5_has_L15 z v f t a pl day x5 n15 1 (k + 1)
          else
            if on = 0 then
              F_X5_has_L15 z v f t a pl day x5 n15 0 (k + 1)
            else
              F_X5_has_L15 z v f t a pl day x5 n15 1 (k + 1)
      else
        if on = 0 then
          F_X5_has_L15 z v f t a pl day x5 n15 0 (k + 1)
        else
          F_X5_has_L15 z v f t a pl day x5 n15 1 (k + 1)
def F_X5_has (z : Nat → Nat) (v : Nat → Int32) (f : Nat → Nat → Int32) (t a pl day : Int32) : Int32 :=
  if (F_X5_has_L15 z v f t a pl day (F_X5_reached z v f t day) (z 1 + 1) 0 0) = 0 then
    0
  else
    if F_X5_isForbidden z v f t a = 0 then
      1
    else
      0
set_option maxHeartbeats 4000000 in
set_option maxRecDepth 100000 in
theorem c_X5_has (l : Launch) (dC : Nat → ClassId) (dI : Nat → Nat → Nat) (am : Nat → Nat) (cI cZ : ClassId) (th : Int32) (z : Nat → Nat) (v : Nat → Int32) (f : Nat → Nat → Int32) (t a pl day : Int32) (hok : okM z v f) (ht : vp_in t 12) : Met l yX5_has wsX5_has ({ frames := 3, cells := 0, slots := 0, locals := 74 }) (va_Pc [.ref (am 0), .int t, .int a, .int pl, .int day] (kM dC dI am cI cZ th z v f)) (vp_Si (fun r => r = F_X5_has z v f t a pl day)) 0 0 (fun _ => False) := by
  refine Met.ofW (cc := cX5_has) (maxL := 9) (ret := (some .boolean)) (by decide) rfl ?_
  intro p e s m args below meth c s₁ B hml hv
  obtain ⟨rfl, hP, hK, hN⟩ := hv
  have hx := B.exec
  have hb := B.bytes
  have hr := B.returns
  have hts := atoms_spec (ws := wsX5_has) B.pre
  have hown : s.vm.findClass RX5 = some m.cls := findClass_of_methodNamed B.named
  have hlocks := B.notSynchronized
  have hok9 := hok
  obtain ⟨hz0, hz1, hz2, hz3, hz4, hbz, hbs, hdp, hgv⟩ := hok9
  have hfl22 := hts (.fieldLink RX5 22 "TraderRightsModel" "rightOf" "[I") (List.mem_of_getElem? (i := 6) rfl)
  have hfl25 := hts (.fieldLink RX5 25 "TraderRightsModel" "rightAct" "[I") (List.mem_of_getElem? (i := 2) rfl)
  have hfl28 := hts (.fieldLink RX5 28 "TraderRightsModel" "rightPlace" "[I") (List.mem_of_getElem? (i := 3) rfl)
  have hfl31 := hts (.fieldLink RX5 31 "TraderRightsModel" "rightFrom" "[I") (List.mem_of_getElem? (i := 4) rfl)
  have hfl34 := hts (.fieldLink RX5 34 "TraderRightsModel" "rightTo" "[I") (List.mem_of_getElem? (i := 5) rfl)
  have hfl87 := hts (.fieldLink RX5 87 "TraderRightsModel" "rights" "I") (List.mem_of_getElem? (i := 1) rfl)
  have hinX5 : ∀ w ∈ u_ws RX5 TX5 25, w ∈ wsX5_has := fun w h => List.mem_cons_of_mem _ (List.mem_append_right _ h)
  have hl := lv_entry ([.ref (am 0), .int t, .int a, .int pl, .int day]) (n := 9) (Nat.le_of_ble_eq_true rfl)
  rw [lg_entry_eq]
  generalize (lg_sl ([.ref (am 0), .int t, .int a, .int pl, .int day]) ++ List.replicate (9 - (lg_sl ([.ref (am 0), .int t, .int a, .int pl, .int day])).length) Slot.unset).toArray = ls at hl ⊢
  have hl : lv_has ls 9 [(0, .ref (am 0)), (1, .int t), (2, .int a), (3, .int pl), (4, .int day)] := hl
  generalize hF : F_X5_has z v f t a pl day = R9
  generalize hQ9 : MQ below (vp_Si (fun r => r = R9)) _ s 0 0 (fun _ => False) = Q9
  rw [F_X5_has] at hF
  refine lv_aload_n hx hb dX5_has_0 rfl (lv_at hl 0 rfl) ?_
  refine lv_iload_n hx hb dX5_has_1 rfl (lv_at hl 1 rfl) ?_
  refine lv_iload hx hb dX5_has_2 (lv_at hl 4 rfl) ?_
  refine vp_callSi (W.runV (As := [.int t, .int day]) (rest := []) ⟨hx, hb, hml, hown, hts⟩ (c_X5_reached l dC dI am cI cZ th z v f t day hok) (cwV 2 hts gX5_has_X5_reached rfl rfl rfl (by decide +kernel) ⟨Nat.le_of_ble_eq_true rfl, Nat.le_of_ble_eq_true rfl⟩) (preM (ci := 5) (q0 := 0) hP hK hN rfl rfl rfl) rfl rfl hl.1 rfl (lv_room (Nat.le_of_ble_eq_true rfl)) dX5_has_4 ⟨Nat.zero_le _, Nat.zero_le _⟩) (fun r1 h9 => ?_)
  have hr1 : r1 = F_X5_reached z v f t day := h9
  try rw [← hr1] at hF
  refine lv_istore (lv' := [(5, .int r1), (0, .ref (am 0)), (1, .int t), (2, .int a), (3, .int pl), (4, .int day)]) hx hb dX5_has_7 hl (by decide) rfl (fun ls hl => ?_)
  refine lv_iconst (v := 0) hx hb dX5_has_9 (by decide) ?_
  refine lv_istore (lv' := [(6, .int 0), (5, .int r1), (0, .ref (am 0)), (1, .int t), (2, .int a), (3, .int pl), (4, .int day)]) hx hb dX5_has_10 hl (by decide) rfl (fun ls hl => ?_)
  refine lv_iconst (v := 0) hx hb dX5_has_12 (by decide) ?_
  refine lv_istore (lv' := [(7, .int 0), (6, .int 0), (5, .int r1), (0, .ref (am 0)), (1, .int t), (2, .int a), (3, .int pl), (4, .int day)]) hx hb dX5_has_13 hl (by decide) rfl (fun ls hl => ?_)
  have lp15 : ∀ (n15 : Nat) (on : Int32) (k : Nat) (ls : Array Slot), k ≤ z 1 → z 1 < k + n15 → lv_has ls 9 [(0, .ref (am 0)), (1, .int t), (2, .int a), (3, .int pl), (4, .int day), (5, .int r1), (6, .int on), (7, .int (nI k))] → (∀ ls : Array Slot, lv_has ls 9 [(0, .ref (am 0)), (1, .int t), (2, .int a), (3, .int pl), (4, .int day), (5, .int r1), (6, .int (F_X5_has_L15 z v f t a pl day r1 n15 on k))] → W p l e (headSpec wsX5_has ({ frames := 3, cells := 0, slots := 0, locals := 74 })).room s m ([.ref (am 0), .int t, .int a, .int pl, .int day] : List Value).toArray below meth c s.heap [] 0 0 Q9 (F0 m 125 ls [])) → W p l e (headSpec wsX5_has ({ frames := 3, cells := 0, slots := 0, locals := 74 })).room s m ([.ref (am 0), .int t, .int a, .int pl, .int day] : List Value).toArray below meth c s.heap [] 0 0 Q9 (F0 m 15 ls []) := by
    intro n15
    induction n15 with
    | zero =>
      intro on k ls hk15 hn15
      exact absurd hn15 (by omega)
    | succ n15 ih15 =>
      intro on k ls hk15 hn15 hl hq15
      generalize hF15 : F_X5_has_L15 z v f t a pl day r1 (n15 + 1) on k = R15 at hq15
      rw [F_X5_has_L15] at hF15
      refine lv_iload hx hb dX5_has_15 (lv_at hl 7 rfl) ?_
      refine lv_aload_n hx hb dX5_has_17 rfl (lv_at hl 0 rfl) ?_
      refine va_get (D := (dC, dI)) (ci := 5) (v := .int (nI (z 1))) (C := RX5) (T := TX5) (N := 25) hx hb hts hinX5 hown hK hP 0 rfl rfl 2 (by decide) hfl87 (fun _ h9 => h9) rfl dX5_has_18 ?_
      refine lv_icmp_ge (tgt := 125) hx hb dX5_has_21 (by decide) (fun c2 => ?_) (fun c2 => ?_)
      · have c2 : z 1 ≤ k := (nI_leI (a := z 1) (b := k) (by omega) (by omega)).mp c2
        rw [if_pos c2] at hF15
        subst hF15
        exact hq15 ls (lv_sub hl [0, 1, 2, 3, 4, 5, 6] rfl)
      · have c2 : ¬ z 1 ≤ k := fun h9 => c2 ((nI_leI (a := z 1) (b := k) (by omega) (by omega)).mpr h9)
        rw [if_neg c2] at hF15
        refine lv_aload_n hx hb dX5_has_24 rfl (lv_at hl 0 rfl) ?_
        refine va_get (D := (dC, dI)) (ci := 5) (v := .ref (am 6)) (C := RX5) (T := TX5) (N := 25) hx hb hts hinX5 hown hK hP 0 rfl rfl 11 (by decide) hfl25 (fun _ h9 => h9) rfl dX5_has_25 ?_
        refine lv_iload hx hb dX5_has_28 (lv_at hl 7 rfl) ?_
        refine xa_ild hx hb hK hP 6 0 rfl rfl (by omega) (by decide) dX5_has_30 ?_
        refine lv_iload_n hx hb dX5_has_31 rfl (lv_at hl 2 rfl) ?_
        refine lv_icmp_ne (tgt := 83) hx hb dX5_has_32 (by decide) (fun c3 => ?_) (fun c3 => ?_)
        · rw [if_neg c3] at hF15
          refine lv_iconst (v := 0) hx hb dX5_has_83 (by decide) ?_
          refine lv_istore (lv' := [(8, .int 0), (0, .ref (am 0)), (1, .int t), (2, .int a), (3, .int pl), (4, .int day), (5, .int r1), (6, .int on), (7, .int (nI k))]) hx hb dX5_has_84 hl (by decide) rfl (fun ls hl => ?_)
          refine lv_iload hx hb dX5_has_86 (lv_at hl 7 rfl) ?_
          refine lv_if_ne (tgt := 112) hx hb dX5_has_88 (by decide) (fun c4 => ?_) (fun c4 => ?_)
          · rw [if_neg c4] at hF15
            refine lv_iconst (v := 1) hx hb dX5_has_112 (by decide) ?_
            refine lv_goto (tgt := 117) hx hb dX5_has_113 (by decide) ?_
            refine lv_istore (lv' := [(6, .int 1), (8, .int 0), (0, .ref (am 0)), (1, .int t), (2, .int a), (3, .int pl), (4, .int day), (5, .int r1), (7, .int (nI k))]) hx hb dX5_has_117 hl (by decide) rfl (fun ls hl => ?_)
            refine lv_iinc (v := nI (k + 1)) (lv' := [(7, .int (nI (k + 1))), (6, .int 1), (8, .int 0), (0, .ref (am 0)), (1, .int t), (2, .int a), (3, .int pl), (4, .int day), (5, .int r1)]) hx hb dX5_has_119 hl (k := 8) rfl (xi_inc _) (by decide) rfl (fun ls hl => ?_)
            refine lv_goto (tgt := 15) hx hb dX5_has_122 (by decide) ?_
            exact ih15 1 (k + 1) ls (by omega) (by omega) (lv_sub hl [3, 4, 5, 6, 7, 8, 1, 0] rfl) (by rw [hF15]; exact hq15)
          · rw [if_pos c4] at hF15
            refine lv_iload hx hb dX5_has_91 (lv_at hl 0 rfl) ?_
            refine lv_if_eq (tgt := 116) hx hb dX5_has_93 (by decide) (fun _ => ?_) (fun c9 => absurd c9 (by decide))
            refine lv_iconst (v := 0) hx hb dX5_has_116 (by decide) ?_
            refine lv_istore (lv' := [(6, .int 0), (8, .int 0), (0, .ref (am 0)), (1, .int t), (2, .int a), (3, .int pl), (4, .int day), (5, .int r1), (7, .int (nI k))]) hx hb dX5_has_117 hl (by decide) rfl (fun ls hl => ?_)
            refine lv_iinc (v := nI (k + 1)) (lv' := [(7, .int (nI (k + 1))), (6, .int 0), (8, .int 0), (0, .ref (am 0)), (1, .int t), (2, .int a), (3, .int pl), (4, .int day), (5, .int r1)]) hx hb dX5_has_119 hl (k := 8) rfl (xi_inc _) (by decide) rfl (fun ls hl => ?_)
            refine lv_goto (tgt := 15) hx hb dX5_has_122 (by decide) ?_
            exact ih15 0 (k + 1) ls (by omega) (by omega) (lv_sub hl [3, 4, 5, 6, 7, 8, 1, 0] rfl) (by rw [hF15]; exact hq15)
        · rw [if_pos c3] at hF15
          refine lv_aload_n hx hb dX5_has_35 rfl (lv_at hl 0 rfl) ?_
          refine va_get (D := (dC, dI)) (ci := 5) (v := .ref (am 7)) (C := RX5) (T := TX5) (N := 25) hx hb hts hinX5 hown hK hP 0 rfl rfl 12 (by decide) hfl28 (fun _ h9 => h9) rfl dX5_has_36 ?_
          refine lv_iload hx hb dX5_has_39 (lv_at hl 7 rfl) ?_
          refine xa_ild hx hb hK hP 7 0 rfl rfl (by omega) (by decide) dX5_has_41 ?_
          refine lv_iconst (v := (-1)) hx hb dX5_has_42 (by decide) ?_
          refine lv_icmp_eq (tgt := 57) hx hb dX5_has_43 (by decide) (fun c5 => ?_) (fun c5 => ?_)
          · rw [if_pos c5] at hF15
            refine lv_iload hx hb dX5_has_57 (lv_at hl 4 rfl) ?_
            refine lv_aload_n hx hb dX5_has_59 rfl (lv_at hl 0 rfl) ?_
            refine va_get (D := (dC, dI)) (ci := 5) (v := .ref (am 8)) (C := RX5) (T := TX5) (N := 25) hx hb hts hinX5 hown hK hP 0 rfl rfl 13 (by decide) hfl31 (fun _ h9 => h9) rfl dX5_has_60 ?_
            refine lv_iload hx hb dX5_has_63 (lv_at hl 7 rfl) ?_
            refine xa_ild hx hb hK hP 8 0 rfl rfl (by omega) (by decide) dX5_has_65 ?_
            refine lv_aload_n hx hb dX5_has_66 rfl (lv_at hl 0 rfl) ?_
            refine va_get (D := (dC, dI)) (ci := 5) (v := .ref (am 9)) (C := RX5) (T := TX5) (N := 25) hx hb hts hinX5 hown hK hP 0 rfl rfl 14 (by decide) hfl34 (fun _ h9 => h9) rfl dX5_has_67 ?_
            refine lv_iload hx hb dX5_has_70 (lv_at hl 7 rfl) ?_
            refine xa_ild hx hb hK hP 9 0 rfl rfl (by omega) (by decide) dX5_has_72 ?_
            refine vp_callSi (W.runS (As := [.int day, .int (f 7 k), .int (f 8 k)]) (rest := []) ⟨hx, hb, hml, hown, hts⟩ (c_X5_in l day (f 7 k) (f 8 k)) (cwS 3 hts gX5_has_X5_in rfl rfl rfl (by decide +kernel) ⟨Nat.le_of_ble_eq_true rfl, Nat.le_of_ble_eq_true rfl⟩) preT rfl rfl hl.1 rfl (lv_room (Nat.le_of_ble_eq_true rfl)) dX5_has_73 ⟨Nat.zero_le _, Nat.zero_le _⟩) (fun r6 h9 => ?_)
            have hr6 : r6 = F_X5_in day (f 7 k) (f 8 k) := h9
            try rw [← hr6] at hF
            try rw [← hr6] at hF15
            refine lv_if_eq (tgt := 83) hx hb dX5_has_76 (by decide) (fun c7 => ?_) (fun c7 => ?_)
            · rw [if_pos c7] at hF15
              have c7f : F_X5_in day (f 7 k) (f 8 k) = 0 := by rw [← hr6]; exact c7
              refine lv_iconst (v := 0) hx hb dX5_has_83 (by decide) ?_
              refine lv_istore (lv' := [(8, .int 0), (0, .ref (am 0)), (1, .int t), (2, .int a), (3, .int pl), (4, .int day), (5, .int r1), (6, .int on), (7, .int (nI k))]) hx hb dX5_has_84 hl (by decide) rfl (fun ls hl => ?_)
              refine lv_iload hx hb dX5_has_86 (lv_at hl 7 rfl) ?_
              refine lv_if_ne (tgt := 112) hx hb dX5_has_88 (by decide) (fun c8 => ?_) (fun c8 => ?_)
              · rw [if_neg c8] at hF15
                refine lv_iconst (v := 1) hx hb dX5_has_112 (by decide) ?_
                refine lv_goto (tgt := 117) hx hb dX5_has_113 (by decide) ?_
                refine lv_istore (lv' := [(6, .int 1), (8, .int 0), (0, .ref (am 0)), (1, .int t), (2, .int a), (3, .int pl), (4, .int day), (5, .int r1), (7, .int (nI k))]) hx hb dX5_has_117 hl (by decide) rfl (fun ls hl => ?_)
                refine lv_iinc (v := nI (k + 1)) (lv' := [(7, .int (nI (k + 1))), (6, .int 1), (8, .int 0), (0, .ref (am 0)), (1, .int t), (2, .int a), (3, .int pl), (4, .int day), (5, .int r1)]) hx hb dX5_has_119 hl (k := 8) rfl (xi_inc _) (by decide) rfl (fun ls hl => ?_)
                refine lv_goto (tgt := 15) hx hb dX5_has_122 (by decide) ?_
                exact ih15 1 (k + 1) ls (by omega) (by omega) (lv_sub hl [3, 4, 5, 6, 7, 8, 1, 0] rfl) (by rw [hF15]; exact hq15)
              · rw [if_pos c8] at hF15
                refine lv_iload hx hb dX5_has_91 (lv_at hl 0 rfl) ?_
                refine lv_if_eq (tgt := 116) hx hb dX5_has_93 (by decide) (fun _ => ?_) (fun c9 => absurd c9 (by decide))
                refine lv_iconst (v := 0) hx hb dX5_has_116 (by decide) ?_
                refine lv_istore (lv' := [(6, .int 0), (8, .int 0), (0, .ref (am 0)), (1, .int t), (2, .int a), (3, .int pl), (4, .int day), (5, .int r1), (7, .int (nI k))]) hx hb dX5_has_117 hl (by decide) rfl (fun ls hl => ?_)
                refine lv_iinc (v := nI (k + 1)) (lv' := [(7, .int (nI (k + 1))), (6, .int 0), (8, .int 0), (0, .ref (am 0)), (1, .int t), (2, .int a), (3, .int pl), (4, .int day), (5, .int r1)]) hx hb dX5_has_119 hl (k := 8) rfl (xi_inc _) (by decide) rfl (fun ls hl => ?_)
                refine lv_goto (tgt := 15) hx hb dX5_has_122 (by decide) ?_
                exact ih15 0 (k + 1) ls (by omega) (by omega) (lv_sub hl [3, 4, 5, 6, 7, 8, 1, 0] rfl) (by rw [hF15]; exact hq15)
            · rw [if_neg c7] at hF15
              have c7f : ¬ F_X5_in day (f 7 k) (f 8 k) = 0 := by rw [← hr6]; exact c7
              refine lv_iconst (v := 1) hx hb dX5_has_79 (by decide) ?_
              refine lv_goto (tgt := 84) hx hb dX5_has_80 (by decide) ?_
              refine lv_istore (lv' := [(8, .int 1), (0, .ref (am 0)), (1, .int t), (2, .int a), (3, .int pl), (4, .int day), (5, .int r1), (6, .int on), (7, .int (nI k))]) hx hb dX5_has_84 hl (by decide) rfl (fun ls hl => ?_)
              refine lv_iload hx hb dX5_has_86 (lv_at hl 7 rfl) ?_
              refine lv_if_ne (tgt := 112) hx hb dX5_has_88 (by decide) (fun c9 => ?_) (fun c9 => ?_)
              · rw [if_neg c9] at hF15
                refine lv_iconst (v := 1) hx hb dX5_has_112 (by decide) ?_
                refine lv_goto (tgt := 117) hx hb dX5_has_113 (by decide) ?_
                refine lv_istore (lv' := [(6, .int 1), (8, .int 1), (0, .ref (am 0)), (1, .int t), (2, .int a), (3, .int pl), (4, .int day), (5, .int r1), (7, .int (nI k))]) hx hb dX5_has_117 hl (by decide) rfl (fun ls hl => ?_)
                refine lv_iinc (v := nI (k + 1)) (lv' := [(7, .int (nI (k + 1))), (6, .int 1), (8, .int 1), (0, .ref (am 0)), (1, .int t), (2, .int a), (3, .int pl), (4, .int day), (5, .int r1)]) hx hb dX5_has_119 hl (k := 8) rfl (xi_inc _) (by decide) rfl (fun ls hl => ?_)
                refine lv_goto (tgt := 15) hx hb dX5_has_122 (by decide) ?_
                exact ih15 1 (k + 1) ls (by omega) (by omega) (lv_sub hl [3, 4, 5, 6, 7, 8, 1, 0] rfl) (by rw [hF15]; exact hq15)
              · rw [if_pos c9] at hF15
                refine lv_iload hx hb dX5_has_91 (lv_at hl 0 rfl) ?_
                refine lv_if_eq (tgt := 116) hx hb dX5_has_93 (by decide) (fun c9 => absurd c9 (by decide)) (fun _ => ?_)
                refine lv_iload hx hb dX5_has_96 (lv_at hl 6 rfl) ?_
                refine lv_aload_n hx hb dX5_has_98 rfl (lv_at hl 1 rfl) ?_
                refine va_get (D := (dC, dI)) (ci := 5) (v := .ref (am 5)) (C := RX5) (T := TX5) (N := 25) hx hb hts hinX5 hown hK hP 0 rfl rfl 10 (by decide) hfl22 (fun _ h9 => h9) rfl dX5_has_99 ?_
                refine lv_iload hx hb dX5_has_102 (lv_at hl 8 rfl) ?_
                refine xa_ild hx hb hK hP 5 0 rfl rfl (by omega) (by decide) dX5_has_104 ?_
                refine lv_ishr hx hb dX5_has_105 ?_
                refine lv_iconst (v := 1) hx hb dX5_has_106 (by decide) ?_
                refine lv_iand hx hb dX5_has_107 ?_
                refine lv_iconst (v := 1) hx hb dX5_has_108 (by decide) ?_
                refine lv_icmp_ne (tgt := 116) hx hb dX5_has_109 (by decide) (fun c10 => ?_) (fun c10 => ?_)
                · rw [if_neg c10] at hF15
                  refine lv_iconst (v := 0) hx hb dX5_has_116 (by decide) ?_
                  refine lv_istore (lv' := [(6, .int 0), (8, .int 1), (0, .ref (am 0)), (1, .int t), (2, .int a), (3, .int pl), (4, .int day), (5, .int r1), (7, .int (nI k))]) hx hb dX5_has_117 hl (by decide) rfl (fun ls hl => ?_)
                  refine lv_iinc (v := nI (k + 1)) (lv' := [(7, .int (nI (k + 1))), (6, .int 0), (8, .int 1), (0, .ref (am 0)), (1, .int t), (2, .int a), (3, .int pl), (4, .int day), (5, .int r1)]) hx hb dX5_has_119 hl (k := 8) rfl (xi_inc _) (by decide) rfl (fun ls hl => ?_)
                  refine lv_goto (tgt := 15) hx hb dX5_has_122 (by decide) ?_
                  exact ih15 0 (k + 1) ls (by omega) (by omega) (lv_sub hl [3, 4, 5, 6, 7, 8, 1, 0] rfl) (by rw [hF15]; exact hq15)
                · rw [if_pos c10] at hF15
                  refine lv_iconst (v := 1) hx hb dX5_has_112 (by decide) ?_
                  refine lv_goto (tgt := 117) hx hb dX5_has_113 (by decide) ?_
                  refine lv_istore (lv' := [(6, .int 1), (8, .int 1), (0, .ref (am 0)), (1, .int t), (2, .int a), (3, .int pl), (4, .int day), (5, .int r1), (7, .int (nI k))]) hx hb dX5_has_117 hl (by decide) rfl (fun ls hl => ?_)
                  refine lv_iinc (v := nI (k + 1)) (lv' := [(7, .int (nI (k + 1))), (6, .int 1), (8, .int 1), (0, .ref (am 0)), (1, .int t), (2, .int a), (3, .int pl), (4, .int day), (5, .int r1)]) hx hb dX5_has_119 hl (k := 8) rfl (xi_inc _) (by decide) rfl (fun ls hl => ?_)
                  refine lv_goto (tgt := 15) hx hb dX5_has_122 (by decide) ?_
                  exact ih15 1 (k + 1) ls (by omega) (by omega) (lv_sub hl [3, 4, 5, 6, 7, 8, 1, 0] rfl) (by rw [hF15]; exact hq15)
          · rw [if_neg c5] at hF15
            refine lv_aload_n hx hb dX5_has_46 rfl (lv_at hl 0 rfl) ?_
            refine va_get (D := (dC, dI)) (ci := 5) (v := .ref (am 7)) (C := RX5) (T := TX5) (N := 25) hx hb hts hinX5 hown hK hP 0 rfl rfl 12 (by decide) hfl28 (fun _ h9 => h9) rfl dX5_has_47 ?_
            refine lv_iload hx hb dX5_has_50 (lv_at hl 7 rfl) ?_
            refine xa_ild hx hb hK hP 7 0 rfl rfl (by omega) (by decide) dX5_has_52 ?_
            refine lv_iload_n hx hb dX5_has_53 rfl (lv_at hl 3 rfl) ?_
            refine lv_icmp_ne (tgt := 83) hx hb dX5_has_54 (by decide) (fun c11 => ?_) (fun c11 => ?_)
            · rw [if_neg c11] at hF15
              refine lv_iconst (v := 0) hx hb dX5_has_83 (by decide) ?_
              refine lv_istore (lv' := [(8, .int 0), (0, .ref (am 0)), (1, .int t), (2, .int a), (3, .int pl), (4, .int day), (5, .int r1), (6, .int on), (7, .int (nI k))]) hx hb dX5_has_84 hl (by decide) rfl (fun ls hl => ?_)
              refine lv_iload hx hb dX5_has_86 (lv_at hl 7 rfl) ?_
              refine lv_if_ne (tgt := 112) hx hb dX5_has_88 (by decide) (fun c12 => ?_) (fun c12 => ?_)
              · rw [if_neg c12] at hF15
                refine lv_iconst (v := 1) hx hb dX5_has_112 (by decide) ?_
                refine lv_goto (tgt := 117) hx hb dX5_has_113 (by decide) ?_
                refine lv_istore (lv' := [(6, .int 1), (8, .int 0), (0, .ref (am 0)), (1, .int t), (2, .int a), (3, .int pl), (4, .int day), (5, .int r1), (7, .int (nI k))]) hx hb dX5_has_117 hl (by decide) rfl (fun ls hl => ?_)
                refine lv_iinc (v := nI (k + 1)) (lv' := [(7, .int (nI (k + 1))), (6, .int 1), (8, .int 0), (0, .ref (am 0)), (1, .int t), (2, .int a), (3, .int pl), (4, .int day), (5, .int r1)]) hx hb dX5_has_119 hl (k := 8) rfl (xi_inc _) (by decide) rfl (fun ls hl => ?_)
                refine lv_goto (tgt := 15) hx hb dX5_has_122 (by decide) ?_
                exact ih15 1 (k + 1) ls (by omega) (by omega) (lv_sub hl [3, 4, 5, 6, 7, 8, 1, 0] rfl) (by rw [hF15]; exact hq15)
              · rw [if_pos c12] at hF15
                refine lv_iload hx hb dX5_has_91 (lv_at hl 0 rfl) ?_
                refine lv_if_eq (tgt := 116) hx hb dX5_has_93 (by decide) (fun _ => ?_) (fun c9 => absurd c9 (by decide))
                refine lv_iconst (v := 0) hx hb dX5_has_116 (by decide) ?_
                refine lv_istore (lv' := [(6, .int 0), (8, .int 0), (0, .ref (am 0)), (1, .int t), (2, .int a), (3, .int pl), (4, .int day), (5, .int r1), (7, .int (nI k))]) hx hb dX5_has_117 hl (by decide) rfl (fun ls hl => ?_)
                refine lv_iinc (v := nI (k + 1)) (lv' := [(7, .int (nI (k + 1))), (6, .int 0), (8, .int 0), (0, .ref (am 0)), (1, .int t), (2, .int a), (3, .int pl), (4, .int day), (5, .int r1)]) hx hb dX5_has_119 hl (k := 8) rfl (xi_inc _) (by decide) rfl (fun ls hl => ?_)
                refine lv_goto (tgt := 15) hx hb dX5_has_122 (by decide) ?_
                exact ih15 0 (k + 1) ls (by omega) (by omega) (lv_sub hl [3, 4, 5, 6, 7, 8, 1, 0] rfl) (by rw [hF15]; exact hq15)
            · rw [if_pos c11] at hF15
              refine lv_iload hx hb dX5_has_57 (lv_at hl 4 rfl) ?_
              refine lv_aload_n hx hb dX5_has_59 rfl (lv_at hl 0 rfl) ?_
              refine va_get (D := (dC, dI)) (ci := 5) (v := .ref (am 8)) (C := RX5) (T := TX5) (N := 25) hx hb hts hinX5 hown hK hP 0 rfl rfl 13 (by decide) hfl31 (fun _ h9 => h9) rfl dX5_has_60 ?_
              refine lv_iload hx hb dX5_has_63 (lv_at hl 7 rfl) ?_
              refine xa_ild hx hb hK hP 8 0 rfl rfl (by omega) (by decide) dX5_has_65 ?_
              refine lv_aload_n hx hb dX5_has_66 rfl (lv_at hl 0 rfl) ?_
              refine va_get (D := (dC, dI)) (ci := 5) (v := .ref (am 9)) (C := RX5) (T := TX5) (N := 25) hx hb hts hinX5 hown hK hP 0 rfl rfl 14 (by decide) hfl34 (fun _ h9 => h9) rfl dX5_has_67 ?_
              refine lv_iload hx hb dX5_has_70 (lv_at hl 7 rfl) ?_
              refine xa_ild hx hb hK hP 9 0 rfl rfl (by omega) (by decide) dX5_has_72 ?_
              refine vp_callSi (W.runS (As := [.int day, .int (f 7 k), .int (f 8 k)]) (rest := []) ⟨hx, hb, hml, hown, hts⟩ (c_X5_in l day (f 7 k) (f 8 k)) (cwS 3 hts gX5_has_X5_in rfl rfl rfl (by decide +kernel) ⟨Nat.le_of_ble_eq_true rfl, Nat.le_of_ble_eq_true rfl⟩) preT rfl rfl hl.1 rfl (lv_room (Nat.le_of_ble_eq_true rfl)) dX5_has_73 ⟨Nat.zero_le _, Nat.zero_le _⟩) (fun r13 h9 => ?_)
              have hr13 : r13 = F_X5_in day (f 7 k) (f 8 k) := h9
              try rw [← hr13] at hF
              try rw [← hr13] at hF15
              refine lv_if_eq (tgt := 83) hx hb dX5_has_76 (by decide) (fun c14 => ?_) (fun c14 => ?_)
              · rw [if_pos c14] at hF15
                have c14f : F_X5_in day (f 7 k) (f 8 k) = 0 := by rw [← hr13]; exact c14
                refine lv_iconst (v := 0) hx hb dX5_has_83 (by decide) ?_
                refine lv_istore (lv' := [(8, .int 0), (0, .ref (am 0)), (1, .int t), (2, .int a), (3, .int pl), (4, .int day), (5, .int r1), (6, .int on), (7, .int (nI k))]) hx hb dX5_has_84 hl (by decide) rfl (fun ls hl => ?_)
                refine lv_iload hx hb dX5_has_86 (lv_at hl 7 rfl) ?_
                refine lv_if_ne (tgt := 112) hx hb dX5_has_88 (by decide) (fun c15 => ?_) (fun c15 => ?_)
                · rw [if_neg c15] at hF15
                  refine lv_iconst (v := 1) hx hb dX5_has_112 (by decide) ?_
                  refine lv_goto (tgt := 117) hx hb dX5_has_113 (by decide) ?_
                  refine lv_istore (lv' := [(6, .int 1), (8, .int 0), (0, .ref (am 0)), (1, .int t), (2, .int a), (3, .int pl), (4, .int day), (5, .int r1), (7, .int (nI k))]) hx hb dX5_has_117 hl (by decide) rfl (fun ls hl => ?_)
                  refine lv_iinc (v := nI (k + 1)) (lv' := [(7, .int (nI (k + 1))), (6, .int 1), (8, .int 0), (0, .ref (am 0)), (1, .int t), (2, .int a), (3, .int pl), (4, .int day), (5, .int r1)]) hx hb dX5_has_119 hl (k := 8) rfl (xi_inc _) (by decide) rfl (fun ls hl => ?_)
                  refine lv_goto (tgt := 15) hx hb dX5_has_122 (by decide) ?_
                  exact ih15 1 (k + 1) ls (by omega) (by omega) (lv_sub hl [3, 4, 5, 6, 7, 8, 1, 0] rfl) (by rw [hF15]; exact hq15)
                · rw [if_pos c15] at hF15
                  refine lv_iload hx hb dX5_has_91 (lv_at hl 0 rfl) ?_
                  refine lv_if_eq (tgt := 116) hx hb dX5_has_93 (by decide) (fun _ => ?_) (fun c9 => absurd c9 (by decide))
                  refine lv_iconst (v := 0) hx hb dX5_has_116 (by decide) ?_
                  refine lv_istore (lv' := [(6, .int 0), (8, .int 0), (0, .ref (am 0)), (1, .int t), (2, .int a), (3, .int pl), (4, .int day), (5, .int r1), (7, .int (nI k))]) hx hb dX5_has_117 hl (by decide) rfl (fun ls hl => ?_)
                  refine lv_iinc (v := nI (k + 1)) (lv' := [(7, .int (nI (k + 1))), (6, .int 0), (8, .int 0), (0, .ref (am 0)), (1, .int t), (2, .int a), (3, .int pl), (4, .int day), (5, .int r1)]) hx hb dX5_has_119 hl (k := 8) rfl (xi_inc _) (by decide) rfl (fun ls hl => ?_)
                  refine lv_goto (tgt := 15) hx hb dX5_has_122 (by decide) ?_
                  exact ih15 0 (k + 1) ls (by omega) (by omega) (lv_sub hl [3, 4, 5, 6, 7, 8, 1, 0] rfl) (by rw [hF15]; exact hq15)
              · rw [if_neg c14] at hF15
                have c14f : ¬ F_X5_in day (f 7 k) (f 8 k) = 0 := by rw [← hr13]; exact c14
                refine lv_iconst (v := 1) hx hb dX5_has_79 (by decide) ?_
                refine lv_goto (tgt := 84) hx hb dX5_has_80 (by decide) ?_
                refine lv_istore (lv' := [(8, .int 1), (0, .ref (am 0)), (1, .int t), (2, .int a), (3, .int pl), (4, .int day), (5, .int r1), (6, .int on), (7, .int (nI k))]) hx hb dX5_has_84 hl (by decide) rfl (fun ls hl => ?_)
                refine lv_iload hx hb dX5_has_86 (lv_at hl 7 rfl) ?_
                refine lv_if_ne (tgt := 112) hx hb dX5_has_88 (by decide) (fun c16 => ?_) (fun c16 => ?_)
                · rw [if_neg c16] at hF15
                  refine lv_iconst (v := 1) hx hb dX5_has_112 (by decide) ?_
                  refine lv_goto (tgt := 117) hx hb dX5_has_113 (by decide) ?_
                  refine lv_istore (lv' := [(6, .int 1), (8, .int 1), (0, .ref (am 0)), (1, .int t), (2, .int a), (3, .int pl), (4, .int day), (5, .int r1), (7, .int (nI k))]) hx hb dX5_has_117 hl (by decide) rfl (fun ls hl => ?_)
                  refine lv_iinc (v := nI (k + 1)) (lv' := [(7, .int (nI (k + 1))), (6, .int 1), (8, .int 1), (0, .ref (am 0)), (1, .int t), (2, .int a), (3, .int pl), (4, .int day), (5, .int r1)]) hx hb dX5_has_119 hl (k := 8) rfl (xi_inc _) (by decide) rfl (fun ls hl => ?_)
                  refine lv_goto (tgt := 15) hx hb dX5_has_122 (by decide) ?_
                  exact ih15 1 (k + 1) ls (by omega) (by omega) (lv_sub hl [3, 4, 5, 6, 7, 8, 1, 0] rfl) (by rw [hF15]; exact hq15)
                · rw [if_pos c16] at hF15
                  refine lv_iload hx hb dX5_has_91 (lv_at hl 0 rfl) ?_
                  refine lv_if_eq (tgt := 116) hx hb dX5_has_93 (by decide) (fun c9 => absurd c9 (by decide)) (fun _ => ?_)
                  refine lv_iload hx hb dX5_has_96 (lv_at hl 6 rfl) ?_
                  refine lv_aload_n hx hb dX5_has_98 rfl (lv_at hl 1 rfl) ?_
                  refine va_get (D := (dC, dI)) (ci := 5) (v := .ref (am 5)) (C := RX5) (T := TX5) (N := 25) hx hb hts hinX5 hown hK hP 0 rfl rfl 10 (by decide) hfl22 (fun _ h9 => h9) rfl dX5_has_99 ?_
                  refine lv_iload hx hb dX5_has_102 (lv_at hl 8 rfl) ?_
                  refine xa_ild hx hb hK hP 5 0 rfl rfl (by omega) (by decide) dX5_has_104 ?_
                  refine lv_ishr hx hb dX5_has_105 ?_
                  refine lv_iconst (v := 1) hx hb dX5_has_106 (by decide) ?_
                  refine lv_iand hx hb dX5_has_107 ?_
                  refine lv_iconst (v := 1) hx hb dX5_has_108 (by decide) ?_
                  refine lv_icmp_ne (tgt := 116) hx hb dX5_has_109 (by decide) (fun c17 => ?_) (fun c17 => ?_)
                  · rw [if_neg c17] at hF15
                    refine lv_iconst (v := 0) hx hb dX5_has_116 (by decide) ?_
                    refine lv_istore (lv' := [(6, .int 0), (8, .int 1), (0, .ref (am 0)), (1, .int t), (2, .int a), (3, .int pl), (4, .int day), (5, .int r1), (7, .int (nI k))]) hx hb dX5_has_117 hl (by decide) rfl (fun ls hl => ?_)
                    refine lv_iinc (v := nI (k + 1)) (lv' := [(7, .int (nI (k + 1))), (6, .int 0), (8, .int 1), (0, .ref (am 0)), (1, .int t), (2, .int a), (3, .int pl), (4, .int day), (5, .int r1)]) hx hb dX5_has_119 hl (k := 8) rfl (xi_inc _) (by decide) rfl (fun ls hl => ?_)
                    refine lv_goto (tgt := 15) hx hb dX5_has_122 (by decide) ?_
                    exact ih15 0 (k + 1) ls (by omega) (by omega) (lv_sub hl [3, 4, 5, 6, 7, 8, 1, 0] rfl) (by rw [hF15]; exact hq15)
                  · rw [if_pos c17] at hF15
                    refine lv_iconst (v := 1) hx hb dX5_has_112 (by decide) ?_
                    refine lv_goto (tgt := 117) hx hb dX5_has_113 (by decide) ?_
                    refine lv_istore (lv' := [(6, .int 1), (8, .int 1), (0, .ref (am 0)), (1, .int t), (2, .int a), (3, .int pl), (4, .int day), (5, .int r1), (7, .int (nI k))]) hx hb dX5_has_117 hl (by decide) rfl (fun ls hl => ?_)
                    refine lv_iinc (v := nI (k + 1)) (lv' := [(7, .int (nI (k + 1))), (6, .int 1), (8, .int 1), (0, .ref (am 0)), (1, .int t), (2, .int a), (3, .int pl), (4, .int day), (5, .int r1)]) hx hb dX5_has_119 hl (k := 8) rfl (xi_inc _) (by decide) rfl (fun ls hl => ?_)
                    refine lv_goto (tgt := 15) hx hb dX5_has_122 (by decide) ?_
                    exact ih15 1 (k + 1) ls (by omega) (by omega) (lv_sub hl [3, 4, 5, 6, 7, 8, 1, 0] rfl) (by rw [hF15]; exact hq15)
  refine lp15 (z 1 + 1) 0 0 ls (by omega) (by omega) (lv_sub hl [3, 4, 5, 6, 7, 2, 1, 0] rfl) (fun ls hl => ?_)
  obtain ⟨r18, hr18⟩ : ∃ y, y = (F_X5_has_L15 z v f t a pl day r1 (z 1 + 1) 0 0) := ⟨_, rfl⟩
  rw [← hr18] at hl
  try rw [← hr18] at hF
  refine lv_iload hx hb dX5_has_125 (lv_at hl 6 rfl) ?_
  refine lv_if_eq (tgt := 143) hx hb dX5_has_127 (by decide) (fun c19 => ?_) (fun c19 => ?_)
  · rw [if_pos c19] at hF
    refine lv_iconst (v := 0) hx hb dX5_has_143 (by decide) ?_
    subst hQ9
    exact W.zret (ty := .boolean) hx hb hr rfl (fun t ht hW => ⟨_, rfl, hF, ht⟩) (fun q h => by cases h) dX5_has_144
  · rw [if_neg c19] at hF
    refine lv_aload_n hx hb dX5_has_130 rfl (lv_at hl 0 rfl) ?_
    refine lv_iload_n hx hb dX5_has_131 rfl (lv_at hl 1 rfl) ?_
    refine lv_iload_n hx hb dX5_has_132 rfl (lv_at hl 2 rfl) ?_
    refine vp_callSi (W.runV (As := [.int t, .int a]) (rest := []) ⟨hx, hb, hml, hown, hts⟩ (c_X5_isForbidden l dC dI am cI cZ th z v f t a hok ht) (cwV 2 hts gX5_has_X5_isForbidden rfl rfl rfl (by decide +kernel) ⟨Nat.le_of_ble_eq_true rfl, Nat.le_of_ble_eq_true rfl⟩) (preM (ci := 5) (q0 := 0) hP hK hN rfl rfl rfl) rfl rfl hl.1 rfl (lv_room (Nat.le_of_ble_eq_true rfl)) dX5_has_133 ⟨Nat.zero_le _, Nat.zero_le _⟩) (fun r20 h9 => ?_)
    have hr20 : r20 = F_X5_isForbidden z v f t a := h9
    try rw [← hr20] at hF
    refine lv_if_ne (tgt := 143) hx hb dX5_has_136 (by decide) (fun c21 => ?_) (fun c21 => ?_)
    · rw [if_neg c21] at hF
      have c21f : ¬ F_X5_isForbidden z v f t a = 0 := by rw [← hr20]; exact c21
      refine lv_iconst (v := 0) hx hb dX5_has_143 (by decide) ?_
      subst hQ9
      exact W.zret (ty := .boolean) hx hb hr rfl (fun t ht hW => ⟨_, rfl, hF, ht⟩) (fun q h => by cases h) dX5_has_144
    · rw [if_pos c21] at hF
      have c21f : F_X5_isForbidden z v f t a = 0 := by rw [← hr20]; exact c21
      refine lv_iconst (v := 1) hx hb dX5_has_139 (by decide) ?_
      refine lv_goto (tgt := 144) hx hb dX5_has_140 (by decide) ?_
      subst hQ9
      exact W.zret (ty := .boolean) hx hb hr rfl (fun t ht hW => ⟨_, rfl, hF, ht⟩) (fun q h => by cases h) dX5_has_144
def F_X5_through (z : Nat → Nat) (v : Nat → Int32) (f : Nat → Nat → Int32) (t o di a pl day : Int32) : Int32 :=
  if F_X5_has z v f o a pl day = 0 then
    7
  else
    if F_X5_isAlive z v f o day = 0 then
      6
    else
      if di = 0 then
        if F_X5_has z v f t 0 pl day = 0 then
          5
        else
          0
      else
        0
set_option maxHeartbeats 4000000 in
set_option maxRecDepth 100000 in
theorem c_X5_through (l : Launch) (dC : Nat → ClassId) (dI : Nat → Nat → Nat) (am : Nat → Nat) (cI cZ : ClassId) (th : Int32) (z : Nat → Nat) (v : Nat → Int32) (f : Nat → Nat → Int32) (t o di a pl day : Int32) (hok : okM z v f) (ht : vp_in t 12) (ho : vp_in o 12) : Met l yX5_through wsX5_through ({ frames := 4, cells := 0, slots := 0, locals := 102 }) (va_Pc [.ref (am 0), .int t, .int o, .int di, .int a, .int pl, .int day] (kM dC dI am cI cZ th z v f)) (vp_Si (fun r => r = F_X5_through z v f t o di a pl day)) 0 0 (fun _ => False) := by
  refine Met.ofW (cc := cX5_through) (maxL := 7) (ret := (some .int)) (by decide) rfl ?_
  intro p e s m args below meth c s₁ B hml hv
  obtain ⟨rfl, hP, hK, hN⟩ := hv
  have hx := B.exec
  have hb := B.bytes
  have hr := B.returns
  have hts := atoms_spec (ws := wsX5_through) B.pre
  have hown : s.vm.findClass RX5 = some m.cls := findClass_of_methodNamed B.named
  have hlocks := B.notSynchronized
  have hok9 := hok
  obtain ⟨hz0, hz1, hz2, hz3, hz4, hbz, hbs, hdp, hgv⟩ := hok9
  have hl := lv_entry ([.ref (am 0), .int t, .int o, .int di, .int a, .int pl, .int day]) (n := 7) (Nat.le_of_ble_eq_true rfl)
  rw [lg_entry_eq]
  generalize (lg_sl ([.ref (am 0), .int t, .int o, .int di, .int a, .int pl, .int day]) ++ List.replicate (7 - (lg_sl ([.ref (am 0), .int t, .int o, .int di, .int a, .int pl, .int day])).length) Slot.unset).toArray = ls at hl ⊢
  have hl : lv_has ls 7 [(0, .ref (am 0)), (1, .int t), (2, .int o), (3, .int di), (4, .int a), (5, .int pl), (6, .int day)] := hl
  generalize hF : F_X5_through z v f t o di a pl day = R9
  generalize hQ9 : MQ below (vp_Si (fun r => r = R9)) _ s 0 0 (fun _ => False) = Q9
  rw [F_X5_through] at hF
  refine lv_aload_n hx hb dX5_through_0 rfl (lv_at hl 0 rfl) ?_
  refine lv_iload_n hx hb dX5_through_1 rfl (lv_at hl 2 rfl) ?_
  refine lv_iload hx hb dX5_through_2 (lv_at hl 4 rfl) ?_
  refine lv_iload hx hb dX5_through_4 (lv_at hl 5 rfl) ?_
  refine lv_iload hx hb dX5_through_6 (lv_at hl 6 rfl) ?_
  refine vp_callSi (W.runV (As := [.int o, .int a, .int pl, .int day]) (rest := []) ⟨hx, hb, hml, hown, hts⟩ (c_X5_has l dC dI am cI cZ th z v f o a pl day hok ho) (cwV 4 hts gX5_through_X5_has rfl rfl rfl (by decide +kernel) ⟨Nat.le_of_ble_eq_true rfl, Nat.le_of_ble_eq_true rfl⟩) (preM (ci := 5) (q0 := 0) hP hK hN rfl rfl rfl) rfl rfl hl.1 rfl (lv_room (Nat.le_of_ble_eq_true rfl)) dX5_through_8 ⟨Nat.zero_le _, Nat.zero_le _⟩) (fun r1 h9 => ?_)
  have hr1 : r1 = F_X5_has z v f o a pl day := h9
  try rw [← hr1] at hF
  refine lv_if_ne (tgt := 17) hx hb dX5_through_11 (by decide) (fun c2 => ?_) (fun c2 => ?_)
  · rw [if_neg c2] at hF
    have c2f : ¬ F_X5_has z v f o a pl day = 0 := by rw [← hr1]; exact c2
    refine lv_aload_n hx hb dX5_through_17 rfl (lv_at hl 0 rfl) ?_
    refine lv_iload_n hx hb dX5_through_18 rfl (lv_at hl 2 rfl) ?_
    refine lv_iload hx hb dX5_through_19 (lv_at hl 6 rfl) ?_
    refine vp_callSi (W.runV (As := [.int o, .int day]) (rest := []) ⟨hx, hb, hml, hown, hts⟩ (c_X5_isAlive l dC dI am cI cZ th z v f o day hok ho) (cwV 2 hts gX5_through_X5_isAlive rfl rfl rfl (by decide +kernel) ⟨Nat.le_of_ble_eq_true rfl, Nat.le_of_ble_eq_true rfl⟩) (preM (ci := 5) (q0 := 0) hP hK hN rfl rfl rfl) rfl rfl hl.1 rfl (lv_room (Nat.le_of_ble_eq_true rfl)) dX5_through_21 ⟨Nat.zero_le _, Nat.zero_le _⟩) (fun r3 h9 => ?_)
    have hr3 : r3 = F_X5_isAlive z v f o day := h9
    try rw [← hr3] at hF
    refine lv_if_ne (tgt := 30) hx hb dX5_through_24 (by decide) (fun c4 => ?_) (fun c4 => ?_)
    · rw [if_neg c4] at hF
      have c4f : ¬ F_X5_isAlive z v f o day = 0 := by rw [← hr3]; exact c4
      refine lv_iload_n hx hb dX5_through_30 rfl (lv_at hl 3 rfl) ?_
      refine lv_if_ne (tgt := 47) hx hb dX5_through_31 (by decide) (fun c5 => ?_) (fun c5 => ?_)
      · rw [if_neg c5] at hF
        refine lv_iconst (v := 0) hx hb dX5_through_47 (by decide) ?_
        refine lv_goto (tgt := 52) hx hb dX5_through_48 (by decide) ?_
        subst hQ9
        exact W.iret hx hb hr (fun t ht hW => ⟨_, rfl, hF, ht⟩) (fun q h => by cases h) dX5_through_52
      · rw [if_pos c5] at hF
        refine lv_aload_n hx hb dX5_through_34 rfl (lv_at hl 0 rfl) ?_
        refine lv_iload_n hx hb dX5_through_35 rfl (lv_at hl 1 rfl) ?_
        refine lv_iconst (v := 0) hx hb dX5_through_36 (by decide) ?_
        refine lv_iload hx hb dX5_through_37 (lv_at hl 5 rfl) ?_
        refine lv_iload hx hb dX5_through_39 (lv_at hl 6 rfl) ?_
        refine vp_callSi (W.runV (As := [.int t, .int 0, .int pl, .int day]) (rest := []) ⟨hx, hb, hml, hown, hts⟩ (c_X5_has l dC dI am cI cZ th z v f t 0 pl day hok ht) (cwV 4 hts gX5_through_X5_has rfl rfl rfl (by decide +kernel) ⟨Nat.le_of_ble_eq_true rfl, Nat.le_of_ble_eq_true rfl⟩) (preM (ci := 5) (q0 := 0) hP hK hN rfl rfl rfl) rfl rfl hl.1 rfl (lv_room (Nat.le_of_ble_eq_true rfl)) dX5_through_41 ⟨Nat.zero_le _, Nat.zero_le _⟩) (fun r6 h9 => ?_)
        have hr6 : r6 = F_X5_has z v f t 0 pl day := h9
        try rw [← hr6] at hF
        refine lv_if_eq (tgt := 51) hx hb dX5_through_44 (by decide) (fun c7 => ?_) (fun c7 => ?_)
        · rw [if_pos c7] at hF
          have c7f : F_X5_has z v f t 0 pl day = 0 := by rw [← hr6]; exact c7
          refine lv_iconst (v := 5) hx hb dX5_through_51 (by decide) ?_
          subst hQ9
          exact W.iret hx hb hr (fun t ht hW => ⟨_, rfl, hF, ht⟩) (fun q h => by cases h) dX5_through_52
        · rw [if_neg c7] at hF
          have c7f : ¬ F_X5_has z v f t 0 pl day = 0 := by rw [← hr6]; exact c7
          refine lv_iconst (v := 0) hx hb dX5_through_47 (by decide) ?_
          refine lv_goto (tgt := 52) hx hb dX5_through_48 (by decide) ?_
          subst hQ9
          exact W.iret hx hb hr (fun t ht hW => ⟨_, rfl, hF, ht⟩) (fun q h => by cases h) dX5_through_52
    · rw [if_pos c4] at hF
      have c4f : F_X5_isAlive z v f o day = 0 := by rw [← hr3]; exact c4
      refine lv_bipush (v := 6) hx hb dX5_through_27 (by decide) ?_
      subst hQ9
      exact W.iret hx hb hr (fun t ht hW => ⟨_, rfl, hF, ht⟩) (fun q h => by cases h) dX5_through_29
  · rw [if_pos c2] at hF
    have c2f : F_X5_has z v f o a pl day = 0 := by rw [← hr1]; exact c2
    refine lv_bipush (v := 7) hx hb dX5_through_14 (by decide) ?_
    subst hQ9
    exact W.iret hx hb hr (fun t ht hW => ⟨_, rfl, hF, ht⟩) (fun q h => by cases h) dX5_through_16
