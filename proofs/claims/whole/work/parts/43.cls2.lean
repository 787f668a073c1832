set_option maxHeartbeats 4000000 in
set_option maxRecDepth 100000 in
/-- size -/
theorem c_size (l : Launch) (hnt : l.stackTraces = false) (K : gw_C) (M : gw_M) (x : Nat) (ro : Nat → Nat) (S : gst) (r9 s9 : Int32) (hS : CS K M ro x S) : vx_Met l yX2_size wsX2_size ({ frames := 10, cells := 2, slots := 12, locals := 200 } : Room) (va_Pc [.ref x, .int r9, .int s9] (gw_I K M)) (va_Qi (fun r M1 => M1 = M ∧ ∃ ra sa, (ra < S.1 ∧ r9 = nI ra) ∧ (sa < 4 ∧ s9 = nI sa) ∧ r = nI (scnt (S.2.1 ra).2.1 sa 16)) (gw_I K) (gw_A K)) (gw_X K (iae M (¬ (inN r9 S.1 ∧ inN s9 4)))) 2 12 (gw_A K) := by
  refine vx_ofW (cc := cX2_size) (maxL := 5) (ret := (some .int)) (by decide) rfl ?_
  intro p e s m args below meth c s₁ B hml hnone hv
  obtain ⟨hav, hI⟩ := hv
  have hx := B.exec
  have hb := B.bytes
  have hr := B.returns
  have hts := atoms_spec (ws := wsX2_size) B.pre
  have hown : s.vm.findClass RX2 = some m.cls := findClass_of_methodNamed B.named
  have hlocks : meth.locks = false := B.notSynchronized
  have hemp : c.exceptionTable.isEmpty = true := B.noHandlers (hts _ List.mem_cons_self)
  have hT := hI.2.2
  have hK := hT.K
  have hG := hI.B
  have hf11 := hts (.fieldLink RX2 11 "DotGossip" "holdings" "[LDotGossip$Holding;") (by decide +kernel)
  have hf23 := hts (.fieldLink RX2 23 "DotGossip" "replicaCount" "I") (by decide +kernel)
  have hinX0 : ∀ w ∈ wsX00, w ∈ wsX2_size := by decide +kernel
  have hinX2 : ∀ w ∈ wsX20, w ∈ wsX2_size := by decide +kernel
  have hE : entryFrame m args 5 = entryFrame m ([.ref x, .int r9, .int s9] : List Value).toArray 5 := by rw [hav]
  rw [hE]
  have hl := lv_entry ([.ref x, .int r9, .int s9]) (n := 5) (Nat.le_of_ble_eq_true rfl)
  rw [lg_entry_eq]
  generalize (lg_sl ([.ref x, .int r9, .int s9]) ++ List.replicate (5 - (lg_sl ([.ref x, .int r9, .int s9])).length) Slot.unset).toArray = ls at hl ⊢
  have hl : lv_has ls 5 [(0, .ref x), (1, .int r9), (2, .int s9)] := hl
  obtain ⟨aH, wl, la, cap, mc, g, lf, ho, had, my, sn, sad, hcs, hrs⟩ := id hS
  obtain ⟨c0, c1, c2, c3, c4, c5, c6⟩ := id hcs
  refine lv_aload_n hx hb dX2_size_0 rfl (lv_at hl 0 rfl) ?_
  refine lv_iload_n hx hb dX2_size_1 rfl (lv_at hl 1 rfl) ?_
  refine gw_xcallv (vx_runV (As := [.int r9]) (rest := []) ⟨hx, hb, hml, hown, hts⟩ (c_reqRep l hnt K M x S.1 _ _ r9 c1 c0.2) (cwV 1 hts gX2_size_X2_requireReplica rfl rfl rfl (by decide +kernel) ⟨Nat.le_of_ble_eq_true rfl, Nat.le_of_ble_eq_true rfl⟩) (gw_preV hG hT c1 rfl) rfl rfl hl.1 rfl (lv_room (Nat.le_of_ble_eq_true rfl)) dX2_size_2 ⟨Nat.le_of_ble_eq_true rfl, Nat.le_of_ble_eq_true rfl⟩) hG (fun E9 ce9 q9 M_164 H locs hw hG h7 h8 h9 => ?_) (fun M_164 H locs hw hG => ?_)
  · exact gw_out hemp hlocks hG hT h7 h8 h9 ⟨hw.1, hw.2.1, fun q => hw.2.2 q.1⟩ (by omega) (by omega)
  · obtain ⟨rk, hrk, rfl⟩ := hw.2
    rw [hw.1] at hG
    refine lv_iload_n hx hb dX2_size_5 rfl (lv_at hl 2 rfl) ?_
    refine lv_iconst (v := nI 4) hx hb dX2_size_6 (by decide) ?_
    refine gw_xcallv (vx_runS (As := [.int s9, .int (nI 4)]) (rest := []) ⟨hx, hb, hml, hown, hts⟩ (c_reqIx l hnt K M s9 (nI 4)) (va_cwS 2 hts gX2_size_X2_requireIndex rfl rfl rfl (by decide +kernel) ⟨Nat.le_of_ble_eq_true rfl, Nat.le_of_ble_eq_true rfl⟩) (gw_preS hG hT) rfl rfl hl.1 rfl (lv_room (Nat.le_of_ble_eq_true rfl)) dX2_size_7 ⟨Nat.le_of_ble_eq_true rfl, Nat.le_of_ble_eq_true rfl⟩) hG (fun E9 ce9 q9 M_166 H locs hw hG h7 h8 h9 => ?_) (fun M_166 H locs hw hG => ?_)
    · exact gw_out hemp hlocks hG hT h7 h8 h9 ⟨hw.1, hw.2.1, fun q => hw.2.2 ((inN_iff (by omega)).mpr q.2)⟩ (by omega) (by omega)
    · obtain ⟨ks, hks, rfl⟩ := (inN_iff (n := 4) (by omega)).mp hw.2
      rw [hw.1] at hG
      have hh_h := (c3 rk (by omega)).2
      obtain ⟨h_0, h_s, h_n, h_w, h_a, h_t, h_ne⟩ := id hh_h
      have hloop : ∀ (n : Nat) (i : Nat), i ≤ 16 → 16 + 1 ≤ i + n → ∀ (Mi : gw_M), Mi = M → ∀ (H : Heap) (locs : List Loc), gw_B K Mi s.heap H locs → ∀ (ls : Array Slot), lv_has ls 5 [(4, .int (nI i)), (3, .int (nI (scnt (S.2.1 rk).2.1 ks i))), (0, .ref x), (1, .int (nI rk)), (2, .int (nI ks))] → W p l e ({ frames := 10, cells := 2, slots := 12, locals := 200 } : Room) s m args below meth c H locs (0 + 1 + 1) (0 + 6 + 6) (vx_MQ below (va_Qi (fun r M1 => M1 = M ∧ ∃ ra sa, (ra < S.1 ∧ (nI rk) = nI ra) ∧ (sa < 4 ∧ (nI ks) = nI sa) ∧ r = nI (scnt (S.2.1 ra).2.1 sa 16)) (gw_I K) (gw_A K)) (gw_X K (iae M (¬ (inN (nI rk) S.1 ∧ inN (nI ks) 4)))) args s 2 12 (gw_A K)) (F0 m 15 ls []) := by
        intro n
        induction n with
        | zero =>
          intro i hg0 hm
          exact absurd hm (by omega)
        | succ n ih =>
          intro i hg0 hm Mi hMi H locs hG ls hl
          rw [hMi] at hG
          refine lv_iload hx hb dX2_size_15 (lv_at hl 0 rfl) ?_
          refine lv_bipush (v := nI 16) hx hb dX2_size_17 (by decide) ?_
          refine gw_icmp_ge hx hb (by omega) (by omega) (tgt := 49) dX2_size_19 (by decide) (fun hc => ?_) (fun hc => ?_)
          · have e16 : i = 16 := by omega
            refine lv_iload_n hx hb dX2_size_49 rfl (lv_at hl 1 rfl) ?_
            rw [e16]
            refine vx_ret ?_
            exact gw_iret hx hb hr hlocks hG hT (by omega) (by omega) dX2_size_50 ⟨rfl, rk, ks, ⟨hrk, rfl⟩, ⟨hks, rfl⟩, rfl⟩
          · refine lv_aload_n hx hb dX2_size_22 rfl (lv_at hl 2 rfl) ?_
            refine gw_get (ci := 3) (C := RX2) (T := TX2) (N := 3) hx hb hts hinX2 hown hK hG c1 rfl 0 (by decide) hf11 (fun _ h9 => h9) rfl dX2_size_23 ?_
            refine lv_iload_n hx hb dX2_size_26 rfl (lv_at hl 3 rfl) ?_
            refine gw_aldq_n (v := some (ho rk)) hx hb hK hG c2 2 rfl (by omega) (by omega) (c3 rk (by omega)).1 dX2_size_27 ?_
            refine lv_iload_n hx hb dX2_size_28 rfl (lv_at hl 4 rfl) ?_
            refine lv_iload hx hb dX2_size_29 (lv_at hl 0 rfl) ?_
            refine gw_calli (va_runS (As := [.int (nI ks), .int (nI i)]) (rest := [.ref (ho rk)]) ⟨hx, hb, hml, hown, hts⟩ (c_place l K M ks i) (va_cwS 2 hts gX2_size_X2_placeOfElement rfl rfl rfl (by decide +kernel) ⟨Nat.le_of_ble_eq_true rfl, Nat.le_of_ble_eq_true rfl⟩) (gw_preS hG hT) rfl rfl hl.1 rfl (lv_room (Nat.le_of_ble_eq_true rfl)) dX2_size_31 ⟨Nat.le_of_ble_eq_true rfl, Nat.le_of_ble_eq_true rfl⟩) hG (fun r_167 M_168 H locs hw hG => ?_)
            rw [hw.1] at hG
            refine gw_as hw.2 ?_
            refine gw_calli (va_runV (As := [.int (nI (ks * 16 + i))]) (rest := []) ⟨hx, hb, hml, hown, hts⟩ (c_dotsAt l K M (ho rk) (had rk) (S.2.1 rk) (ks * 16 + i) hh_h (by omega)) (cwV 1 hts gX2_size_X0_dotsAt rfl rfl rfl (by decide +kernel) ⟨Nat.le_of_ble_eq_true rfl, Nat.le_of_ble_eq_true rfl⟩) (gw_preV hG hT h_0 rfl) rfl rfl hl.1 rfl (lv_room (Nat.le_of_ble_eq_true rfl)) dX2_size_34 ⟨Nat.le_of_ble_eq_true rfl, Nat.le_of_ble_eq_true rfl⟩) hG (fun r_169 M_170 H locs hw hG => ?_)
            rw [hw.1] at hG
            refine gw_as hw.2 ?_
            have hle := dcnt_le (S.2.1 rk).2.1 (ks * 16 + i) 6
            refine lv_if_le hx hb (tgt := 43) dX2_size_37 (by decide) (fun hz => ?_) (fun hz => ?_)
            · have e9 : scnt (S.2.1 rk).2.1 ks (i + 1) = scnt (S.2.1 rk).2.1 ks i := by simp [scnt, (nI_le0 (show dcnt (S.2.1 rk).2.1 (ks * 16 + i) 6 < 2 ^ 31 by omega)).mp hz]
              refine lv_iinc (v := nI (i + 1)) (lv' := [(4, .int (nI (i + 1))), (3, .int (nI (scnt (S.2.1 rk).2.1 ks i))), (0, .ref x), (1, .int (nI rk)), (2, .int (nI ks))]) hx hb dX2_size_43 hl (k := 0) rfl (gw_inc _) (by decide) rfl (fun ls hl => ?_)
              refine lv_goto (tgt := 15) hx hb dX2_size_46 (by decide) ?_
              rw [← e9] at hl
              exact ih (i + 1) (by omega) (by omega) M rfl _ _ hG ls (lv_sub hl [0, 1, 2, 3, 4] rfl)
            · have e9 : scnt (S.2.1 rk).2.1 ks (i + 1) = scnt (S.2.1 rk).2.1 ks i + 1 := by show scnt (S.2.1 rk).2.1 ks i + (if dcnt (S.2.1 rk).2.1 (ks * 16 + i) 6 = 0 then 0 else 1) = _; rw [if_neg (fun q => hz ((nI_le0 (by omega)).mpr q))]
              refine lv_iinc (v := nI ((scnt (S.2.1 rk).2.1 ks i) + 1)) (lv' := [(3, .int (nI ((scnt (S.2.1 rk).2.1 ks i) + 1))), (4, .int (nI i)), (0, .ref x), (1, .int (nI rk)), (2, .int (nI ks))]) hx hb dX2_size_40 hl (k := 1) rfl (gw_inc _) (by decide) rfl (fun ls hl => ?_)
              refine lv_iinc (v := nI (i + 1)) (lv' := [(4, .int (nI (i + 1))), (3, .int (nI ((scnt (S.2.1 rk).2.1 ks i) + 1))), (0, .ref x), (1, .int (nI rk)), (2, .int (nI ks))]) hx hb dX2_size_43 hl (k := 1) rfl (gw_inc _) (by decide) rfl (fun ls hl => ?_)
              refine lv_goto (tgt := 15) hx hb dX2_size_46 (by decide) ?_
              rw [← e9] at hl
              exact ih (i + 1) (by omega) (by omega) M rfl _ _ hG ls (lv_sub hl [0, 1, 2, 3, 4] rfl)
      refine lv_iconst (v := nI 0) hx hb dX2_size_10 (by decide) ?_
      refine lv_istore_n (lv' := [(3, .int (nI 0)), (0, .ref x), (1, .int (nI rk)), (2, .int (nI ks))]) hx hb dX2_size_11 rfl hl (by decide) rfl (fun ls hl => ?_)
      refine lv_iconst (v := nI 0) hx hb dX2_size_12 (by decide) ?_
      refine lv_istore (lv' := [(4, .int (nI 0)), (3, .int (nI 0)), (0, .ref x), (1, .int (nI rk)), (2, .int (nI ks))]) hx hb dX2_size_13 hl (by decide) rfl (fun ls hl => ?_)
      exact hloop 17 0 (by omega) (by omega) M rfl _ _ hG ls (lv_sub hl [0, 1, 2, 3, 4] rfl)

set_option maxHeartbeats 4000000 in
set_option maxRecDepth 100000 in
/-- clear -/
theorem c_clearF (l : Launch) (hnt : l.stackTraces = false) (K : gw_C) (M : gw_M) (x : Nat) (ro : Nat → Nat) (S : gst) (r9 s9 : Int32) (F : Nat → Nat → Nat → hV × Nat) (hS : CS K M ro x S) (hF0 : ∀ rk ks, F rk ks 0 = (S.2.1 rk, 0)) (hFs : ∀ rk ks i, F rk ks (i + 1) = (vrem (F rk ks i).1 (ks * 16 + i), (F rk ks i).2 + (if dcnt (F rk ks i).1.2.1 (ks * 16 + i) 6 = 0 then 0 else 1))) : vx_Met l yX2_clear wsX2_clear ({ frames := 10, cells := 2, slots := 12, locals := 200 } : Room) (va_Pc [.ref x, .int r9, .int s9] (gw_I K M)) (va_Qi (fun r M1 => ∃ ra sa, (ra < S.1 ∧ r9 = nI ra) ∧ (sa < 4 ∧ s9 = nI sa) ∧ r = nI (F ra sa 16).2 ∧ CS K M1 ro x (shold S ra ((F ra sa 16).1)) ∧ ofr 60 1000 M M1 ro ro) (gw_I K) (gw_A K)) (gw_X K (iae M (¬ (inN r9 S.1 ∧ inN s9 4)))) 2 12 (gw_A K) := by
  refine vx_ofW (cc := cX2_clear) (maxL := 5) (ret := (some .int)) (by decide) rfl ?_
  intro p e s m args below meth c s₁ B hml hnone hv
  obtain ⟨hav, hI⟩ := hv
  have hx := B.exec
  have hb := B.bytes
  have hr := B.returns
  have hts := atoms_spec (ws := wsX2_clear) B.pre
  have hown : s.vm.findClass RX2 = some m.cls := findClass_of_methodNamed B.named
  have hlocks : meth.locks = false := B.notSynchronized
  have hemp : c.exceptionTable.isEmpty = true := B.noHandlers (hts _ List.mem_cons_self)
  have hT := hI.2.2
  have hK := hT.K
  have hG := hI.B
  have hf11 := hts (.fieldLink RX2 11 "DotGossip" "holdings" "[LDotGossip$Holding;") (by decide +kernel)
  have hf23 := hts (.fieldLink RX2 23 "DotGossip" "replicaCount" "I") (by decide +kernel)
  have hinX0 : ∀ w ∈ wsX00, w ∈ wsX2_clear := by decide +kernel
  have hinX2 : ∀ w ∈ wsX20, w ∈ wsX2_clear := by decide +kernel
  have hE : entryFrame m args 5 = entryFrame m ([.ref x, .int r9, .int s9] : List Value).toArray 5 := by rw [hav]
  rw [hE]
  have hl := lv_entry ([.ref x, .int r9, .int s9]) (n := 5) (Nat.le_of_ble_eq_true rfl)
  rw [lg_entry_eq]
  generalize (lg_sl ([.ref x, .int r9, .int s9]) ++ List.replicate (5 - (lg_sl ([.ref x, .int r9, .int s9])).length) Slot.unset).toArray = ls at hl ⊢
  have hl : lv_has ls 5 [(0, .ref x), (1, .int r9), (2, .int s9)] := hl
  obtain ⟨aH, wl, la, cap, mc, g, lf, ho, had, my, sn, sad, hcs, hrs⟩ := id hS
  obtain ⟨c0, c1, c2, c3, c4, c5, c6⟩ := id hcs
  refine lv_aload_n hx hb dX2_clear_0 rfl (lv_at hl 0 rfl) ?_
  refine lv_iload_n hx hb dX2_clear_1 rfl (lv_at hl 1 rfl) ?_
  refine gw_xcallv (vx_runV (As := [.int r9]) (rest := []) ⟨hx, hb, hml, hown, hts⟩ (c_reqRep l hnt K M x S.1 _ _ r9 c1 c0.2) (cwV 1 hts gX2_clear_X2_requireReplica rfl rfl rfl (by decide +kernel) ⟨Nat.le_of_ble_eq_true rfl, Nat.le_of_ble_eq_true rfl⟩) (gw_preV hG hT c1 rfl) rfl rfl hl.1 rfl (lv_room (Nat.le_of_ble_eq_true rfl)) dX2_clear_2 ⟨Nat.le_of_ble_eq_true rfl, Nat.le_of_ble_eq_true rfl⟩) hG (fun E9 ce9 q9 M_172 H locs hw hG h7 h8 h9 => ?_) (fun M_172 H locs hw hG => ?_)
  · exact gw_out hemp hlocks hG hT h7 h8 h9 ⟨hw.1, hw.2.1, fun q => hw.2.2 q.1⟩ (by omega) (by omega)
  · obtain ⟨rk, hrk, rfl⟩ := hw.2
    rw [hw.1] at hG
    refine lv_iload_n hx hb dX2_clear_5 rfl (lv_at hl 2 rfl) ?_
    refine lv_iconst (v := nI 4) hx hb dX2_clear_6 (by decide) ?_
    refine gw_xcallv (vx_runS (As := [.int s9, .int (nI 4)]) (rest := []) ⟨hx, hb, hml, hown, hts⟩ (c_reqIx l hnt K M s9 (nI 4)) (va_cwS 2 hts gX2_clear_X2_requireIndex rfl rfl rfl (by decide +kernel) ⟨Nat.le_of_ble_eq_true rfl, Nat.le_of_ble_eq_true rfl⟩) (gw_preS hG hT) rfl rfl hl.1 rfl (lv_room (Nat.le_of_ble_eq_true rfl)) dX2_clear_7 ⟨Nat.le_of_ble_eq_true rfl, Nat.le_of_ble_eq_true rfl⟩) hG (fun E9 ce9 q9 M_174 H locs hw hG h7 h8 h9 => ?_) (fun M_174 H locs hw hG => ?_)
    · exact gw_out hemp hlocks hG hT h7 h8 h9 ⟨hw.1, hw.2.1, fun q => hw.2.2 ((inN_iff (by omega)).mpr q.2)⟩ (by omega) (by omega)
    · obtain ⟨ks, hks, rfl⟩ := (inN_iff (n := 4) (by omega)).mp hw.2
      rw [hw.1] at hG
      have hh_h := (c3 rk (by omega)).2
      have hloop : ∀ (n : Nat) (i : Nat), i ≤ 16 → 16 + 1 ≤ i + n → ∀ (Mi : gw_M), (hd K Mi (ho rk) (had rk) (F rk ks i).1 ∧ hfr M Mi (had rk)) → ∀ (H : Heap) (locs : List Loc), gw_B K Mi s.heap H locs → ∀ (ls : Array Slot), lv_has ls 5 [(4, .int (nI i)), (3, .int (nI ((F rk ks i).2))), (0, .ref x), (1, .int (nI rk)), (2, .int (nI ks))] → W p l e ({ frames := 10, cells := 2, slots := 12, locals := 200 } : Room) s m args below meth c H locs (0 + 1 + 1) (0 + 6 + 6) (vx_MQ below (va_Qi (fun r M1 => ∃ ra sa, (ra < S.1 ∧ (nI rk) = nI ra) ∧ (sa < 4 ∧ (nI ks) = nI sa) ∧ r = nI (F ra sa 16).2 ∧ CS K M1 ro x (shold S ra ((F ra sa 16).1)) ∧ ofr 60 1000 M M1 ro ro) (gw_I K) (gw_A K)) (gw_X K (iae M (¬ (inN (nI rk) S.1 ∧ inN (nI ks) 4)))) args s 2 12 (gw_A K)) (F0 m 15 ls []) := by
        intro n
        induction n with
        | zero =>
          intro i hg0 hm
          exact absurd hm (by omega)
        | succ n ih =>
          intro i hg0 hm Mi hMi H locs hG ls hl
          obtain ⟨q1, q2⟩ := hMi
          have kp := cs_kp hrs (show rk < 6 by omega) q2
          have kx := (kp x (by have := hrs.1; omega)).trans c1
          have ka := (kp aH (by have := hrs.2.1; omega)).trans c2
          refine lv_iload hx hb dX2_clear_15 (lv_at hl 0 rfl) ?_
          refine lv_bipush (v := nI 16) hx hb dX2_clear_17 (by decide) ?_
          refine gw_icmp_ge hx hb (by omega) (by omega) (tgt := 49) dX2_clear_19 (by decide) (fun hc => ?_) (fun hc => ?_)
          · have e16 : i = 16 := by omega
            refine lv_iload_n hx hb dX2_clear_49 rfl (lv_at hl 1 rfl) ?_
            obtain ⟨z1, z2⟩ := cs_hold hcs hrs (show rk < 6 by omega) q1 q2
            rw [e16] at z1 ⊢
            refine vx_ret ?_
            exact gw_iret hx hb hr hlocks hG hT (by omega) (by omega) dX2_clear_50 ⟨rk, ks, ⟨hrk, rfl⟩, ⟨hks, rfl⟩, rfl, z1, z2⟩
          · refine lv_aload_n hx hb dX2_clear_22 rfl (lv_at hl 2 rfl) ?_
            refine gw_get (ci := 3) (C := RX2) (T := TX2) (N := 3) hx hb hts hinX2 hown hK hG kx rfl 0 (by decide) hf11 (fun _ h9 => h9) rfl dX2_clear_23 ?_
            refine lv_iload_n hx hb dX2_clear_26 rfl (lv_at hl 3 rfl) ?_
            refine gw_aldq_n (v := some (ho rk)) hx hb hK hG ka 2 rfl (by omega) (by omega) (c3 rk (by omega)).1 dX2_clear_27 ?_
            refine lv_iload_n hx hb dX2_clear_28 rfl (lv_at hl 4 rfl) ?_
            refine lv_iload hx hb dX2_clear_29 (lv_at hl 0 rfl) ?_
            refine gw_calli (va_runS (As := [.int (nI ks), .int (nI i)]) (rest := [.ref (ho rk)]) ⟨hx, hb, hml, hown, hts⟩ (c_place l K Mi ks i) (va_cwS 2 hts gX2_clear_X2_placeOfElement rfl rfl rfl (by decide +kernel) ⟨Nat.le_of_ble_eq_true rfl, Nat.le_of_ble_eq_true rfl⟩) (gw_preS hG hT) rfl rfl hl.1 rfl (lv_room (Nat.le_of_ble_eq_true rfl)) dX2_clear_31 ⟨Nat.le_of_ble_eq_true rfl, Nat.le_of_ble_eq_true rfl⟩) hG (fun r_175 M_176 H locs hw hG => ?_)
            rw [hw.1] at hG
            refine gw_as hw.2 ?_
            refine gw_calli (va_runV (As := [.int (nI (ks * 16 + i))]) (rest := []) ⟨hx, hb, hml, hown, hts⟩ (c_forget l K Mi (ho rk) (had rk) (F rk ks i).1 (ks * 16 + i) q1 (by omega)) (cwV 1 hts gX2_clear_X0_forget rfl rfl rfl (by decide +kernel) ⟨Nat.le_of_ble_eq_true rfl, Nat.le_of_ble_eq_true rfl⟩) (gw_preV hG hT q1.1 rfl) rfl rfl hl.1 rfl (lv_room (Nat.le_of_ble_eq_true rfl)) dX2_clear_34 ⟨Nat.le_of_ble_eq_true rfl, Nat.le_of_ble_eq_true rfl⟩) hG (fun r_177 M_178 H locs hw hG => ?_)
            obtain ⟨hr1, hd1, hf1⟩ := hw
            have hle := dcnt_le (F rk ks i).1.2.1 (ks * 16 + i) 6
            have es := hFs rk ks i
            refine gw_as hr1 ?_
            refine lv_if_le hx hb (tgt := 43) dX2_clear_37 (by decide) (fun hz => ?_) (fun hz => ?_)
            · rw [if_pos ((nI_le0 (show dcnt (F rk ks i).1.2.1 (ks * 16 + i) 6 < 2 ^ 31 by omega)).mp hz), Nat.add_zero] at es
              clear hle
              refine lv_iinc (v := nI (i + 1)) (lv' := [(4, .int (nI (i + 1))), (3, .int (nI ((F rk ks i).2))), (0, .ref x), (1, .int (nI rk)), (2, .int (nI ks))]) hx hb dX2_clear_43 hl (k := 0) rfl (gw_inc _) (by decide) rfl (fun ls hl => ?_)
              refine lv_goto (tgt := 15) hx hb dX2_clear_46 (by decide) ?_
              exact ih (i + 1) (by omega) (by omega) _ (by rw [es]; exact ⟨hd1, q2.tr hf1⟩) _ _ hG ls (by rw [es]; exact lv_sub hl [0, 1, 2, 3, 4] rfl)
            · rw [if_neg (fun q => hz ((nI_le0 (show dcnt (F rk ks i).1.2.1 (ks * 16 + i) 6 < 2 ^ 31 by omega)).mpr q))] at es
              clear hle
              refine lv_iinc (v := nI (((F rk ks i).2) + 1)) (lv' := [(3, .int (nI (((F rk ks i).2) + 1))), (4, .int (nI i)), (0, .ref x), (1, .int (nI rk)), (2, .int (nI ks))]) hx hb dX2_clear_40 hl (k := 1) rfl (gw_inc _) (by decide) rfl (fun ls hl => ?_)
              refine lv_iinc (v := nI (i + 1)) (lv' := [(4, .int (nI (i + 1))), (3, .int (nI (((F rk ks i).2) + 1))), (0, .ref x), (1, .int (nI rk)), (2, .int (nI ks))]) hx hb dX2_clear_43 hl (k := 1) rfl (gw_inc _) (by decide) rfl (fun ls hl => ?_)
              refine lv_goto (tgt := 15) hx hb dX2_clear_46 (by decide) ?_
              exact ih (i + 1) (by omega) (by omega) _ (by rw [es]; exact ⟨hd1, q2.tr hf1⟩) _ _ hG ls (by rw [es]; exact lv_sub hl [0, 1, 2, 3, 4] rfl)
      refine lv_iconst (v := nI 0) hx hb dX2_clear_10 (by decide) ?_
      refine lv_istore_n (lv' := [(3, .int (nI 0)), (0, .ref x), (1, .int (nI rk)), (2, .int (nI ks))]) hx hb dX2_clear_11 rfl hl (by decide) rfl (fun ls hl => ?_)
      refine lv_iconst (v := nI 0) hx hb dX2_clear_12 (by decide) ?_
      refine lv_istore (lv' := [(4, .int (nI 0)), (3, .int (nI 0)), (0, .ref x), (1, .int (nI rk)), (2, .int (nI ks))]) hx hb dX2_clear_13 hl (by decide) rfl (fun ls hl => ?_)
      exact hloop 17 0 (by omega) (by omega) M (by rw [hF0]; exact ⟨hh_h, hfr.rf⟩) _ _ hG ls (by rw [hF0]; exact lv_sub hl [0, 1, 2, 3, 4] rfl)

theorem c_clear (l : Launch) (hnt : l.stackTraces = false) (K : gw_C) (M : gw_M) (x : Nat) (ro : Nat → Nat) (S : gst) (r9 s9 : Int32) (hS : CS K M ro x S) : vx_Met l yX2_clear wsX2_clear ({ frames := 10, cells := 2, slots := 12, locals := 200 } : Room) (va_Pc [.ref x, .int r9, .int s9] (gw_I K M)) (va_Qi (fun r M1 => ∃ rk ks, (rk < S.1 ∧ r9 = nI rk) ∧ (ks < 4 ∧ s9 = nI ks) ∧ r = nI (vcl (S.2.1 rk) ks 16).2 ∧ CS K M1 ro x (shold S rk ((vcl (S.2.1 rk) ks 16).1)) ∧ ofr 60 1000 M M1 ro ro) (gw_I K) (gw_A K)) (gw_X K (iae M (¬ (inN r9 S.1 ∧ inN s9 4)))) 2 12 (gw_A K) :=
  c_clearF l hnt K M x ro S r9 s9 (fun rk ks => vcl (S.2.1 rk) ks) hS (fun _ _ => rfl) (fun _ _ _ => rfl)

set_option maxHeartbeats 4000000 in
set_option maxRecDepth 100000 in
/-- dot -/
theorem c_dot (l : Launch) (hnt : l.stackTraces = false) (K : gw_C) (M : gw_M) (x : Nat) (ro : Nat → Nat) (S : gst) (r9 s9 e9 i9 q9 : Int32) (hS : CS K M ro x S) : vx_Met l yX2_dot wsX2_dot ({ frames := 10, cells := 4, slots := 24, locals := 200 } : Room) (va_Pc [.ref x, .int r9, .int s9, .int e9, .int i9, .int q9] (gw_I K M)) (va_Qi (fun r M1 => M1 = M ∧ ∃ rk ks ke, (rk < S.1 ∧ r9 = nI rk) ∧ (ks < 4 ∧ s9 = nI ks) ∧ (ke < 16 ∧ e9 = nI ke) ∧ (q9 = 0 ∨ q9 = 1) ∧ r = if q9 = 0 then mko (S.2.1 rk).2.1 (ks * 16 + ke) i9 6 else if mko (S.2.1 rk).2.1 (ks * 16 + ke) i9 6 = -1 then -1 else (S.2.1 rk).2.1 ((ks * 16 + ke) * 6 + (mko (S.2.1 rk).2.1 (ks * 16 + ke) i9 6).toNatClampNeg)) (gw_I K) (gw_A K)) (gw_X K (iae M (¬ ((inN r9 S.1 ∧ inN s9 4 ∧ inN e9 16) ∧ (q9 = 0 ∨ q9 = 1))))) 4 24 (gw_A K) := by
  refine vx_ofW (cc := cX2_dot) (maxL := 9) (ret := (some .int)) (by decide) rfl ?_
  intro p e s m args below meth c s₁ B hml hnone hv
  obtain ⟨hav, hI⟩ := hv
  have hx := B.exec
  have hb := B.bytes
  have hr := B.returns
  have hts := atoms_spec (ws := wsX2_dot) B.pre
  have hown : s.vm.findClass RX2 = some m.cls := findClass_of_methodNamed B.named
  have hlocks : meth.locks = false := B.notSynchronized
  have hemp : c.exceptionTable.isEmpty = true := B.noHandlers (hts _ List.mem_cons_self)
  have hT := hI.2.2
  have hK := hT.K
  have hG := hI.B
  have hf11 := hts (.fieldLink RX2 11 "DotGossip" "holdings" "[LDotGossip$Holding;") (by decide +kernel)
  have hf23 := hts (.fieldLink RX2 23 "DotGossip" "replicaCount" "I") (by decide +kernel)
  have hinX0 : ∀ w ∈ wsX00, w ∈ wsX2_dot := by decide +kernel
  have hinX2 : ∀ w ∈ wsX20, w ∈ wsX2_dot := by decide +kernel
  have hE : entryFrame m args 9 = entryFrame m ([.ref x, .int r9, .int s9, .int e9, .int i9, .int q9] : List Value).toArray 9 := by rw [hav]
  rw [hE]
  have hl := lv_entry ([.ref x, .int r9, .int s9, .int e9, .int i9, .int q9]) (n := 9) (Nat.le_of_ble_eq_true rfl)
  rw [lg_entry_eq]
  generalize (lg_sl ([.ref x, .int r9, .int s9, .int e9, .int i9, .int q9]) ++ List.replicate (9 - (lg_sl ([.ref x, .int r9, .int s9, .int e9, .int i9, .int q9])).length) Slot.unset).toArray = ls at hl ⊢
  have hl : lv_has ls 9 [(0, .ref x), (1, .int r9), (2, .int s9), (3, .int e9), (4, .int i9), (5, .int q9)] := hl
  obtain ⟨aH, wl, la, cap, mc, g, lf, ho, had, my, sn, sad, hcs, hrs⟩ := id hS
  obtain ⟨c0, c1, c2, c3, c4, c5, c6⟩ := id hcs
  refine lv_aload_n hx hb dX2_dot_0 rfl (lv_at hl 0 rfl) ?_
  refine lv_iload_n hx hb dX2_dot_1 rfl (lv_at hl 1 rfl) ?_
  refine lv_iload_n hx hb dX2_dot_2 rfl (lv_at hl 2 rfl) ?_
  refine lv_iload_n hx hb dX2_dot_3 rfl (lv_at hl 3 rfl) ?_
  refine gw_xcallv (vx_runV (As := [.int r9, .int s9, .int e9]) (rest := []) ⟨hx, hb, hml, hown, hts⟩ (c_reqEl l hnt K M x S.1 _ _ r9 s9 e9 c1 c0.2) (cwV 3 hts gX2_dot_X2_requireElement rfl rfl rfl (by decide +kernel) ⟨Nat.le_of_ble_eq_true rfl, Nat.le_of_ble_eq_true rfl⟩) (gw_preV hG hT c1 rfl) rfl rfl hl.1 rfl (lv_room (Nat.le_of_ble_eq_true rfl)) dX2_dot_4 ⟨Nat.le_of_ble_eq_true rfl, Nat.le_of_ble_eq_true rfl⟩) hG (fun E9 ce9 q9 M_180 H locs hw hG h7 h8 h9 => ?_) (fun M_180 H locs hw hG => ?_)
  · exact gw_out hemp hlocks hG hT h7 h8 h9 ⟨hw.1, hw.2.1, fun q => hw.2.2 q.1⟩ (by omega) (by omega)
  · obtain ⟨⟨rk, hrk, rfl⟩, ⟨ks, hks, rfl⟩, ⟨ke, hke, rfl⟩⟩ := hw.2
    rw [hw.1] at hG
    refine lv_iload hx hb dX2_dot_7 (lv_at hl 5 rfl) ?_
    refine lv_if_eq hx hb (tgt := 18) dX2_dot_9 (by decide) (fun hq0 => ?_) (fun hq0 => ?_)
    · refine lv_iconst (v := nI 1) hx hb dX2_dot_18 (by decide) ?_
      refine lv_goto (tgt := 23) hx hb dX2_dot_19 (by decide) ?_
      refine gw_xcallv (vx_runS (As := [.int (nI 1)]) (rest := []) ⟨hx, hb, hml, hown, hts⟩ (c_require l hnt K M (nI 1)) (va_cwS 1 hts gX2_dot_X2_require rfl rfl rfl (by decide +kernel) ⟨Nat.le_of_ble_eq_true rfl, Nat.le_of_ble_eq_true rfl⟩) (gw_preS hG hT) rfl rfl hl.1 rfl (lv_room (Nat.le_of_ble_eq_true rfl)) dX2_dot_23 ⟨Nat.le_of_ble_eq_true rfl, Nat.le_of_ble_eq_true rfl⟩) hG (fun E9 ce9 q9 M_182 H locs hw hG h7 h8 h9 => ?_) (fun M_182 H locs hw hG => ?_)
      · exact absurd hw.2.2 (by decide)
      · rw [hw.1] at hG
        refine lv_aload_n hx hb dX2_dot_26 rfl (lv_at hl 0 rfl) ?_
        refine gw_get (ci := 3) (C := RX2) (T := TX2) (N := 3) hx hb hts hinX2 hown hK hG c1 rfl 0 (by decide) hf11 (fun _ h9 => h9) rfl dX2_dot_27 ?_
        refine lv_iload_n hx hb dX2_dot_30 rfl (lv_at hl 1 rfl) ?_
        refine gw_aldq_n (v := some (ho rk)) hx hb hK hG c2 2 rfl (by omega) (by omega) (c3 rk (by omega)).1 dX2_dot_31 ?_
        have hh_h := (c3 rk (by omega)).2
        obtain ⟨h_0, h_s, h_n, h_w, h_a, h_t, h_ne⟩ := id hh_h
        refine lv_astore (lv' := [(6, .ref (ho rk)), (0, .ref x), (1, .int (nI rk)), (2, .int (nI ks)), (3, .int (nI ke)), (4, .int i9), (5, .int q9)]) hx hb dX2_dot_32 hl (by decide) rfl (fun ls hl => ?_)
        refine lv_iload_n hx hb dX2_dot_34 rfl (lv_at hl 3 rfl) ?_
        refine lv_iload_n hx hb dX2_dot_35 rfl (lv_at hl 4 rfl) ?_
        refine gw_calli (va_runS (As := [.int (nI ks), .int (nI ke)]) (rest := []) ⟨hx, hb, hml, hown, hts⟩ (c_place l K M ks ke) (va_cwS 2 hts gX2_dot_X2_placeOfElement rfl rfl rfl (by decide +kernel) ⟨Nat.le_of_ble_eq_true rfl, Nat.le_of_ble_eq_true rfl⟩) (gw_preS hG hT) rfl rfl hl.1 rfl (lv_room (Nat.le_of_ble_eq_true rfl)) dX2_dot_36 ⟨Nat.le_of_ble_eq_true rfl, Nat.le_of_ble_eq_true rfl⟩) hG (fun r_183 M_184 H locs hw hG => ?_)
        rw [hw.1] at hG
        refine gw_as hw.2 ?_
        refine lv_istore (lv' := [(7, .int (nI (ks * 16 + ke))), (6, .ref (ho rk)), (0, .ref x), (1, .int (nI rk)), (2, .int (nI ks)), (3, .int (nI ke)), (4, .int i9), (5, .int q9)]) hx hb dX2_dot_39 hl (by decide) rfl (fun ls hl => ?_)
        refine lv_aload hx hb dX2_dot_41 (lv_at hl 1 rfl) ?_
        refine lv_iload hx hb dX2_dot_43 (lv_at hl 0 rfl) ?_
        refine lv_iload hx hb dX2_dot_45 (lv_at hl 6 rfl) ?_
        refine gw_calli (va_runV (As := [.int (nI (ks * 16 + ke)), .int i9]) (rest := []) ⟨hx, hb, hml, hown, hts⟩ (c_makerOf l K M (ho rk) (had rk) (S.2.1 rk) (ks * 16 + ke) i9 hh_h (by omega)) (cwV 2 hts gX2_dot_X0_makerOf rfl rfl rfl (by decide +kernel) ⟨Nat.le_of_ble_eq_true rfl, Nat.le_of_ble_eq_true rfl⟩) (gw_preV hG hT h_0 rfl) rfl rfl hl.1 rfl (lv_room (Nat.le_of_ble_eq_true rfl)) dX2_dot_47 ⟨Nat.le_of_ble_eq_true rfl, Nat.le_of_ble_eq_true rfl⟩) hG (fun r_185 M_186 H locs hw hG => ?_)
        rw [hw.1] at hG
        refine gw_as hw.2 ?_
        refine lv_istore (lv' := [(8, .int (mko (S.2.1 rk).2.1 (ks * 16 + ke) i9 6)), (7, .int (nI (ks * 16 + ke))), (6, .ref (ho rk)), (0, .ref x), (1, .int (nI rk)), (2, .int (nI ks)), (3, .int (nI ke)), (4, .int i9), (5, .int q9)]) hx hb dX2_dot_50 hl (by decide) rfl (fun ls hl => ?_)
        refine lv_iload hx hb dX2_dot_52 (lv_at hl 8 rfl) ?_
        refine lv_if_ne hx hb (tgt := 62) dX2_dot_54 (by decide) (fun hc9 => ?_) (fun hc9 => ?_)
        · exact absurd hq0 hc9
        · refine lv_iload hx hb dX2_dot_57 (lv_at hl 0 rfl) ?_
          refine lv_goto (tgt := 71) hx hb dX2_dot_59 (by decide) ?_
          refine vx_ret ?_
          exact gw_iret hx hb hr hlocks hG hT (by omega) (by omega) dX2_dot_71 ⟨rfl, rk, ks, ke, ⟨hrk, rfl⟩, ⟨hks, rfl⟩, ⟨hke, rfl⟩, Or.inl hq0, by rw [if_pos hq0]⟩
    · refine lv_iload hx hb dX2_dot_12 (lv_at hl 5 rfl) ?_
      refine lv_iconst (v := nI 1) hx hb dX2_dot_14 (by decide) ?_
      refine lv_icmp_ne hx hb (tgt := 22) dX2_dot_15 (by decide) (fun hq1 => ?_) (fun hq1 => ?_)
      · refine lv_iconst (v := nI 0) hx hb dX2_dot_22 (by decide) ?_
        refine gw_xcallv (vx_runS (As := [.int (nI 0)]) (rest := []) ⟨hx, hb, hml, hown, hts⟩ (c_require l hnt K M (nI 0)) (va_cwS 1 hts gX2_dot_X2_require rfl rfl rfl (by decide +kernel) ⟨Nat.le_of_ble_eq_true rfl, Nat.le_of_ble_eq_true rfl⟩) (gw_preS hG hT) rfl rfl hl.1 rfl (lv_room (Nat.le_of_ble_eq_true rfl)) dX2_dot_23 ⟨Nat.le_of_ble_eq_true rfl, Nat.le_of_ble_eq_true rfl⟩) hG (fun E9 ce9 q9 M_188 H locs hw hG h7 h8 h9 => ?_) (fun M_188 H locs hw hG => ?_)
        · exact gw_out hemp hlocks hG hT h7 h8 h9 ⟨hw.1, hw.2.1, fun q => q.2.elim hq0 (fun z => hq1 (z.trans (by decide)))⟩ (by omega) (by omega)
        · exact absurd (by decide) hw.2
      · have hq1 : q9 = 1 := hq1.trans (by decide)
        refine lv_iconst (v := nI 1) hx hb dX2_dot_18 (by decide) ?_
        refine lv_goto (tgt := 23) hx hb dX2_dot_19 (by decide) ?_
        refine gw_xcallv (vx_runS (As := [.int (nI 1)]) (rest := []) ⟨hx, hb, hml, hown, hts⟩ (c_require l hnt K M (nI 1)) (va_cwS 1 hts gX2_dot_X2_require rfl rfl rfl (by decide +kernel) ⟨Nat.le_of_ble_eq_true rfl, Nat.le_of_ble_eq_true rfl⟩) (gw_preS hG hT) rfl rfl hl.1 rfl (lv_room (Nat.le_of_ble_eq_true rfl)) dX2_dot_23 ⟨Nat.le_of_ble_eq_true rfl, Nat.le_of_ble_eq_true rfl⟩) hG (fun E9 ce9 q9 M_190 H locs hw hG h7 h8 h9 => ?_) (fun M_190 H locs hw hG => ?_)
        · exact absurd hw.2.2 (by decide)
        · rw [hw.1] at hG
          refine lv_aload_n hx hb dX2_dot_26 rfl (lv_at hl 0 rfl) ?_
          refine gw_get (ci := 3) (C := RX2) (T := TX2) (N := 3) hx hb hts hinX2 hown hK hG c1 rfl 0 (by decide) hf11 (fun _ h9 => h9) rfl dX2_dot_27 ?_
          refine lv_iload_n hx hb dX2_dot_30 rfl (lv_at hl 1 rfl) ?_
          refine gw_aldq_n (v := some (ho rk)) hx hb hK hG c2 2 rfl (by omega) (by omega) (c3 rk (by omega)).1 dX2_dot_31 ?_
          have hh_h := (c3 rk (by omega)).2
          obtain ⟨h_0, h_s, h_n, h_w, h_a, h_t, h_ne⟩ := id hh_h
          refine lv_astore (lv' := [(6, .ref (ho rk)), (0, .ref x), (1, .int (nI rk)), (2, .int (nI ks)), (3, .int (nI ke)), (4, .int i9), (5, .int q9)]) hx hb dX2_dot_32 hl (by decide) rfl (fun ls hl => ?_)
          refine lv_iload_n hx hb dX2_dot_34 rfl (lv_at hl 3 rfl) ?_
          refine lv_iload_n hx hb dX2_dot_35 rfl (lv_at hl 4 rfl) ?_
          refine gw_calli (va_runS (As := [.int (nI ks), .int (nI ke)]) (rest := []) ⟨hx, hb, hml, hown, hts⟩ (c_place l K M ks ke) (va_cwS 2 hts gX2_dot_X2_placeOfElement rfl rfl rfl (by decide +kernel) ⟨Nat.le_of_ble_eq_true rfl, Nat.le_of_ble_eq_true rfl⟩) (gw_preS hG hT) rfl rfl hl.1 rfl (lv_room (Nat.le_of_ble_eq_true rfl)) dX2_dot_36 ⟨Nat.le_of_ble_eq_true rfl, Nat.le_of_ble_eq_true rfl⟩) hG (fun r_191 M_192 H locs hw hG => ?_)
          rw [hw.1] at hG
          refine gw_as hw.2 ?_
          refine lv_istore (lv' := [(7, .int (nI (ks * 16 + ke))), (6, .ref (ho rk)), (0, .ref x), (1, .int (nI rk)), (2, .int (nI ks)), (3, .int (nI ke)), (4, .int i9), (5, .int q9)]) hx hb dX2_dot_39 hl (by decide) rfl (fun ls hl => ?_)
          refine lv_aload hx hb dX2_dot_41 (lv_at hl 1 rfl) ?_
          refine lv_iload hx hb dX2_dot_43 (lv_at hl 0 rfl) ?_
          refine lv_iload hx hb dX2_dot_45 (lv_at hl 6 rfl) ?_
          refine gw_calli (va_runV (As := [.int (nI (ks * 16 + ke)), .int i9]) (rest := []) ⟨hx, hb, hml, hown, hts⟩ (c_makerOf l K M (ho rk) (had rk) (S.2.1 rk) (ks * 16 + ke) i9 hh_h (by omega)) (cwV 2 hts gX2_dot_X0_makerOf rfl rfl rfl (by decide +kernel) ⟨Nat.le_of_ble_eq_true rfl, Nat.le_of_ble_eq_true rfl⟩) (gw_preV hG hT h_0 rfl) rfl rfl hl.1 rfl (lv_room (Nat.le_of_ble_eq_true rfl)) dX2_dot_47 ⟨Nat.le_of_ble_eq_true rfl, Nat.le_of_ble_eq_true rfl⟩) hG (fun r_193 M_194 H locs hw hG => ?_)
          rw [hw.1] at hG
          refine gw_as hw.2 ?_
          refine lv_istore (lv' := [(8, .int (mko (S.2.1 rk).2.1 (ks * 16 + ke) i9 6)), (7, .int (nI (ks * 16 + ke))), (6, .ref (ho rk)), (0, .ref x), (1, .int (nI rk)), (2, .int (nI ks)), (3, .int (nI ke)), (4, .int i9), (5, .int q9)]) hx hb dX2_dot_50 hl (by decide) rfl (fun ls hl => ?_)
          refine lv_iload hx hb dX2_dot_52 (lv_at hl 8 rfl) ?_
          refine lv_if_ne hx hb (tgt := 62) dX2_dot_54 (by decide) (fun hc9 => ?_) (fun hc9 => ?_)
          · refine lv_aload hx hb dX2_dot_62 (lv_at hl 2 rfl) ?_
            refine lv_iload hx hb dX2_dot_64 (lv_at hl 1 rfl) ?_
            refine lv_iload hx hb dX2_dot_66 (lv_at hl 0 rfl) ?_
            refine gw_calli (va_runV (As := [.int (nI (ks * 16 + ke)), .int (mko (S.2.1 rk).2.1 (ks * 16 + ke) i9 6)]) (rest := []) ⟨hx, hb, hml, hown, hts⟩ (c_numberBy l K M (ho rk) (had rk) (S.2.1 rk) (ks * 16 + ke) (mko (S.2.1 rk).2.1 (ks * 16 + ke) i9 6) hh_h (by omega) (mko_form _ _ _ 6)) (cwV 2 hts gX2_dot_X0_numberBy rfl rfl rfl (by decide +kernel) ⟨Nat.le_of_ble_eq_true rfl, Nat.le_of_ble_eq_true rfl⟩) (gw_preV hG hT h_0 rfl) rfl rfl hl.1 rfl (lv_room (Nat.le_of_ble_eq_true rfl)) dX2_dot_68 ⟨Nat.le_of_ble_eq_true rfl, Nat.le_of_ble_eq_true rfl⟩) hG (fun r_195 M_196 H locs hw hG => ?_)
            have hr3 := hw.2
            rw [hw.1] at hG
            refine vx_ret ?_
            exact gw_iret hx hb hr hlocks hG hT (by omega) (by omega) dX2_dot_71 ⟨rfl, rk, ks, ke, ⟨hrk, rfl⟩, ⟨hks, rfl⟩, ⟨hke, rfl⟩, Or.inr hq1, by rw [if_neg hq0]; exact hr3⟩
          · exact absurd hc9 hq0

set_option maxHeartbeats 4000000 in
set_option maxRecDepth 100000 in
/-- value -/
theorem c_value (l : Launch) (hnt : l.stackTraces = false) (K : gw_C) (M : gw_M) (x : Nat) (ro : Nat → Nat) (S : gst) (r9 s9 i9 q9 : Int32) (hS : CS K M ro x S) : vx_Met l yX2_value wsX2_value ({ frames := 10, cells := 3, slots := 18, locals := 200 } : Room) (va_Pc [.ref x, .int r9, .int s9, .int i9, .int q9] (gw_I K M)) (va_Qi (fun r M1 => M1 = M ∧ ∃ rk ks, (rk < S.1 ∧ r9 = nI rk) ∧ (ks < 4 ∧ s9 = nI ks) ∧ (q9 = 0 ∨ q9 = 1 ∨ q9 = 2) ∧ r = if q9 = 2 then (if mko (S.2.1 rk).2.1 (64 + ks) i9 6 = -1 then 0 else (S.2.1 rk).2.2.1 (ks * 6 + (mko (S.2.1 rk).2.1 (64 + ks) i9 6).toNatClampNeg)) else if q9 = 0 then mko (S.2.1 rk).2.1 (64 + ks) i9 6 else if mko (S.2.1 rk).2.1 (64 + ks) i9 6 = -1 then -1 else (S.2.1 rk).2.1 ((64 + ks) * 6 + (mko (S.2.1 rk).2.1 (64 + ks) i9 6).toNatClampNeg)) (gw_I K) (gw_A K)) (gw_X K (iae M (¬ ((inN r9 S.1 ∧ inN s9 4) ∧ (q9 = 0 ∨ q9 = 1 ∨ q9 = 2))))) 3 18 (gw_A K) := by
  refine vx_ofW (cc := cX2_value) (maxL := 8) (ret := (some .int)) (by decide) rfl ?_
  intro p e s m args below meth c s₁ B hml hnone hv
  obtain ⟨hav, hI⟩ := hv
  have hx := B.exec
  have hb := B.bytes
  have hr := B.returns
  have hts := atoms_spec (ws := wsX2_value) B.pre
  have hown : s.vm.findClass RX2 = some m.cls := findClass_of_methodNamed B.named
  have hlocks : meth.locks = false := B.notSynchronized
  have hemp : c.exceptionTable.isEmpty = true := B.noHandlers (hts _ List.mem_cons_self)
  have hT := hI.2.2
  have hK := hT.K
  have hG := hI.B
  have hf11 := hts (.fieldLink RX2 11 "DotGossip" "holdings" "[LDotGossip$Holding;") (by decide +kernel)
  have hf23 := hts (.fieldLink RX2 23 "DotGossip" "replicaCount" "I") (by decide +kernel)
  have hf60 := hts (.fieldLink RX2 60 "DotGossip$Holding" "written" "[I") (by decide +kernel)
  have hinX0 : ∀ w ∈ wsX00, w ∈ wsX2_value := by decide +kernel
  have hinX2 : ∀ w ∈ wsX20, w ∈ wsX2_value := by decide +kernel
  have hE : entryFrame m args 8 = entryFrame m ([.ref x, .int r9, .int s9, .int i9, .int q9] : List Value).toArray 8 := by rw [hav]
  rw [hE]
  have hl := lv_entry ([.ref x, .int r9, .int s9, .int i9, .int q9]) (n := 8) (Nat.le_of_ble_eq_true rfl)
  rw [lg_entry_eq]
  generalize (lg_sl ([.ref x, .int r9, .int s9, .int i9, .int q9]) ++ List.replicate (8 - (lg_sl ([.ref x, .int r9, .int s9, .int i9, .int q9])).length) Slot.unset).toArray = ls at hl ⊢
  have hl : lv_has ls 8 [(0, .ref x), (1, .int r9), (2, .int s9), (3, .int i9), (4, .int q9)] := hl
  obtain ⟨aH, wl, la, cap, mc, g, lf, ho, had, my, sn, sad, hcs, hrs⟩ := id hS
  obtain ⟨c0, c1, c2, c3, c4, c5, c6⟩ := id hcs
  refine lv_aload_n hx hb dX2_value_0 rfl (lv_at hl 0 rfl) ?_
  refine lv_iload_n hx hb dX2_value_1 rfl (lv_at hl 1 rfl) ?_
  refine gw_xcallv (vx_runV (As := [.int r9]) (rest := []) ⟨hx, hb, hml, hown, hts⟩ (c_reqRep l hnt K M x S.1 _ _ r9 c1 c0.2) (cwV 1 hts gX2_value_X2_requireReplica rfl rfl rfl (by decide +kernel) ⟨Nat.le_of_ble_eq_true rfl, Nat.le_of_ble_eq_true rfl⟩) (gw_preV hG hT c1 rfl) rfl rfl hl.1 rfl (lv_room (Nat.le_of_ble_eq_true rfl)) dX2_value_2 ⟨Nat.le_of_ble_eq_true rfl, Nat.le_of_ble_eq_true rfl⟩) hG (fun E9 ce9 q9 M_198 H locs hw hG h7 h8 h9 => ?_) (fun M_198 H locs hw hG => ?_)
  · exact gw_out hemp hlocks hG hT h7 h8 h9 ⟨hw.1, hw.2.1, fun q => hw.2.2 q.1.1⟩ (by omega) (by omega)
  · obtain ⟨rk, hrk, rfl⟩ := hw.2
    rw [hw.1] at hG
    refine lv_iload_n hx hb dX2_value_5 rfl (lv_at hl 2 rfl) ?_
    refine lv_iconst (v := nI 4) hx hb dX2_value_6 (by decide) ?_
    refine gw_xcallv (vx_runS (As := [.int s9, .int (nI 4)]) (rest := []) ⟨hx, hb, hml, hown, hts⟩ (c_reqIx l hnt K M s9 (nI 4)) (va_cwS 2 hts gX2_value_X2_requireIndex rfl rfl rfl (by decide +kernel) ⟨Nat.le_of_ble_eq_true rfl, Nat.le_of_ble_eq_true rfl⟩) (gw_preS hG hT) rfl rfl hl.1 rfl (lv_room (Nat.le_of_ble_eq_true rfl)) dX2_value_7 ⟨Nat.le_of_ble_eq_true rfl, Nat.le_of_ble_eq_true rfl⟩) hG (fun E9 ce9 q9 M_200 H locs hw hG h7 h8 h9 => ?_) (fun M_200 H locs hw hG => ?_)
    · exact gw_out hemp hlocks hG hT h7 h8 h9 ⟨hw.1, hw.2.1, fun q => hw.2.2 ((inN_iff (by omega)).mpr q.1.2)⟩ (by omega) (by omega)
    · obtain ⟨ks, hks, rfl⟩ := (inN_iff (n := 4) (by omega)).mp hw.2
      rw [hw.1] at hG
      refine lv_iload hx hb dX2_value_10 (lv_at hl 4 rfl) ?_
      refine lv_if_eq hx hb (tgt := 27) dX2_value_12 (by decide) (fun hq => ?_) (fun hq => ?_)
      · have hany : q9 = 0 ∨ q9 = 1 ∨ q9 = 2 := Or.inl hq
        have hq2 : ¬ q9 = 2 := fun z => by rw [hq] at z; exact absurd z (by decide)
        refine lv_iconst (v := nI 1) hx hb dX2_value_27 (by decide) ?_
        refine lv_goto (tgt := 32) hx hb dX2_value_28 (by decide) ?_
        refine gw_xcallv (vx_runS (As := [.int (nI 1)]) (rest := []) ⟨hx, hb, hml, hown, hts⟩ (c_require l hnt K M (nI 1)) (va_cwS 1 hts gX2_value_X2_require rfl rfl rfl (by decide +kernel) ⟨Nat.le_of_ble_eq_true rfl, Nat.le_of_ble_eq_true rfl⟩) (gw_preS hG hT) rfl rfl hl.1 rfl (lv_room (Nat.le_of_ble_eq_true rfl)) dX2_value_32 ⟨Nat.le_of_ble_eq_true rfl, Nat.le_of_ble_eq_true rfl⟩) hG (fun E9 ce9 q9 M_202 H locs hw hG h7 h8 h9 => ?_) (fun M_202 H locs hw hG => ?_)
        · exact absurd hw.2.2 (by decide)
        · rw [hw.1] at hG
          refine lv_aload_n hx hb dX2_value_35 rfl (lv_at hl 0 rfl) ?_
          refine gw_get (ci := 3) (C := RX2) (T := TX2) (N := 3) hx hb hts hinX2 hown hK hG c1 rfl 0 (by decide) hf11 (fun _ h9 => h9) rfl dX2_value_36 ?_
          refine lv_iload_n hx hb dX2_value_39 rfl (lv_at hl 1 rfl) ?_
          refine gw_aldq_n (v := some (ho rk)) hx hb hK hG c2 2 rfl (by omega) (by omega) (c3 rk (by omega)).1 dX2_value_40 ?_
          have hh_h := (c3 rk (by omega)).2
          obtain ⟨h_0, h_s, h_n, h_w, h_a, h_t, h_ne⟩ := id hh_h
          refine lv_astore (lv' := [(5, .ref (ho rk)), (0, .ref x), (1, .int (nI rk)), (2, .int (nI ks)), (3, .int i9), (4, .int q9)]) hx hb dX2_value_41 hl (by decide) rfl (fun ls hl => ?_)
          refine lv_bipush (v := nI 64) hx hb dX2_value_43 (by decide) ?_
          refine lv_iload_n hx hb dX2_value_45 rfl (lv_at hl 3 rfl) ?_
          refine gw_iadd hx hb dX2_value_46 ?_
          refine lv_istore (lv' := [(6, .int (nI (64 + ks))), (5, .ref (ho rk)), (0, .ref x), (1, .int (nI rk)), (2, .int (nI ks)), (3, .int i9), (4, .int q9)]) hx hb dX2_value_47 hl (by decide) rfl (fun ls hl => ?_)
          refine lv_aload hx hb dX2_value_49 (lv_at hl 1 rfl) ?_
          refine lv_iload hx hb dX2_value_51 (lv_at hl 0 rfl) ?_
          refine lv_iload_n hx hb dX2_value_53 rfl (lv_at hl 5 rfl) ?_
          refine gw_calli (va_runV (As := [.int (nI (64 + ks)), .int i9]) (rest := []) ⟨hx, hb, hml, hown, hts⟩ (c_makerOf l K M (ho rk) (had rk) (S.2.1 rk) (64 + ks) i9 hh_h (by omega)) (cwV 2 hts gX2_value_X0_makerOf rfl rfl rfl (by decide +kernel) ⟨Nat.le_of_ble_eq_true rfl, Nat.le_of_ble_eq_true rfl⟩) (gw_preV hG hT h_0 rfl) rfl rfl hl.1 rfl (lv_room (Nat.le_of_ble_eq_true rfl)) dX2_value_54 ⟨Nat.le_of_ble_eq_true rfl, Nat.le_of_ble_eq_true rfl⟩) hG (fun r_203 M_204 H locs hw hG => ?_)
          rw [hw.1] at hG
          refine gw_as hw.2 ?_
          refine lv_istore (lv' := [(7, .int (mko (S.2.1 rk).2.1 (64 + ks) i9 6)), (6, .int (nI (64 + ks))), (5, .ref (ho rk)), (0, .ref x), (1, .int (nI rk)), (2, .int (nI ks)), (3, .int i9), (4, .int q9)]) hx hb dX2_value_57 hl (by decide) rfl (fun ls hl => ?_)
          refine lv_iload hx hb dX2_value_59 (lv_at hl 7 rfl) ?_
          refine lv_iconst (v := nI 2) hx hb dX2_value_61 (by decide) ?_
          refine lv_icmp_ne hx hb (tgt := 89) dX2_value_62 (by decide) (fun hc2 => ?_) (fun hc2 => ?_)
          · refine lv_iload hx hb dX2_value_89 (lv_at hl 7 rfl) ?_
            refine lv_if_ne hx hb (tgt := 99) dX2_value_91 (by decide) (fun hc9 => ?_) (fun hc9 => ?_)
            · exact absurd hq hc9
            · refine lv_iload hx hb dX2_value_94 (lv_at hl 0 rfl) ?_
              refine lv_goto (tgt := 108) hx hb dX2_value_96 (by decide) ?_
              refine vx_ret ?_
              exact gw_iret hx hb hr hlocks hG hT (by omega) (by omega) dX2_value_108 ⟨rfl, rk, ks, ⟨hrk, rfl⟩, ⟨hks, rfl⟩, hany, by rw [if_neg hq2, if_pos hq]⟩
          · exact absurd (hc2.trans (by decide)) hq2
      · have hq0 := hq
        refine lv_iload hx hb dX2_value_15 (lv_at hl 4 rfl) ?_
        refine lv_iconst (v := nI 1) hx hb dX2_value_17 (by decide) ?_
        refine lv_icmp_eq hx hb (tgt := 27) dX2_value_18 (by decide) (fun hq => ?_) (fun hq => ?_)
        · have hq : q9 = 1 := hq.trans (by decide)
          have hany : q9 = 0 ∨ q9 = 1 ∨ q9 = 2 := Or.inr (Or.inl hq)
          have hq2 : ¬ q9 = 2 := fun z => by rw [hq] at z; exact absurd z (by decide)
          refine lv_iconst (v := nI 1) hx hb dX2_value_27 (by decide) ?_
          refine lv_goto (tgt := 32) hx hb dX2_value_28 (by decide) ?_
          refine gw_xcallv (vx_runS (As := [.int (nI 1)]) (rest := []) ⟨hx, hb, hml, hown, hts⟩ (c_require l hnt K M (nI 1)) (va_cwS 1 hts gX2_value_X2_require rfl rfl rfl (by decide +kernel) ⟨Nat.le_of_ble_eq_true rfl, Nat.le_of_ble_eq_true rfl⟩) (gw_preS hG hT) rfl rfl hl.1 rfl (lv_room (Nat.le_of_ble_eq_true rfl)) dX2_value_32 ⟨Nat.le_of_ble_eq_true rfl, Nat.le_of_ble_eq_true rfl⟩) hG (fun E9 ce9 q9 M_206 H locs hw hG h7 h8 h9 => ?_) (fun M_206 H locs hw hG => ?_)
          · exact absurd hw.2.2 (by decide)
          · rw [hw.1] at hG
            refine lv_aload_n hx hb dX2_value_35 rfl (lv_at hl 0 rfl) ?_
            refine gw_get (ci := 3) (C := RX2) (T := TX2) (N := 3) hx hb hts hinX2 hown hK hG c1 rfl 0 (by decide) hf11 (fun _ h9 => h9) rfl dX2_value_36 ?_
            refine lv_iload_n hx hb dX2_value_39 rfl (lv_at hl 1 rfl) ?_
            refine gw_aldq_n (v := some (ho rk)) hx hb hK hG c2 2 rfl (by omega) (by omega) (c3 rk (by omega)).1 dX2_value_40 ?_
            have hh_h := (c3 rk (by omega)).2
            obtain ⟨h_0, h_s, h_n, h_w, h_a, h_t, h_ne⟩ := id hh_h
            refine lv_astore (lv' := [(5, .ref (ho rk)), (0, .ref x), (1, .int (nI rk)), (2, .int (nI ks)), (3, .int i9), (4, .int q9)]) hx hb dX2_value_41 hl (by decide) rfl (fun ls hl => ?_)
            refine lv_bipush (v := nI 64) hx hb dX2_value_43 (by decide) ?_
            refine lv_iload_n hx hb dX2_value_45 rfl (lv_at hl 3 rfl) ?_
            refine gw_iadd hx hb dX2_value_46 ?_
            refine lv_istore (lv' := [(6, .int (nI (64 + ks))), (5, .ref (ho rk)), (0, .ref x), (1, .int (nI rk)), (2, .int (nI ks)), (3, .int i9), (4, .int q9)]) hx hb dX2_value_47 hl (by decide) rfl (fun ls hl => ?_)
            refine lv_aload hx hb dX2_value_49 (lv_at hl 1 rfl) ?_
            refine lv_iload hx hb dX2_value_51 (lv_at hl 0 rfl) ?_
            refine lv_iload_n hx hb dX2_value_53 rfl (lv_at hl 5 rfl) ?_
            refine gw_calli (va_runV (As := [.int (nI (64 + ks)), .int i9]) (rest := []) ⟨hx, hb, hml, hown, hts⟩ (c_makerOf l K M (ho rk) (had rk) (S.2.1 rk) (64 + ks) i9 hh_h (by omega)) (cwV 2 hts gX2_value_X0_makerOf rfl rfl rfl (by decide +kernel) ⟨Nat.le_of_ble_eq_true rfl, Nat.le_of_ble_eq_true rfl⟩) (gw_preV hG hT h_0 rfl) rfl rfl hl.1 rfl (lv_room (Nat.le_of_ble_eq_true rfl)) dX2_value_54 ⟨Nat.le_of_ble_eq_true rfl, Nat.le_of_ble_eq_true rfl⟩) hG (fun r_207 M_208 H locs hw hG => ?_)
            rw [hw.1] at hG
            refine gw_as hw.2 ?_
            refine lv_istore (lv' := [(7, .int (mko (S.2.1 rk).2.1 (64 + ks) i9 6)), (6, .int (nI (64 + ks))), (5, .ref (ho rk)), (0, .ref x), (1, .int (nI rk)), (2, .int (nI ks)), (3, .int i9), (4, .int q9)]) hx hb dX2_value_57 hl (by decide) rfl (fun ls hl => ?_)
            refine lv_iload hx hb dX2_value_59 (lv_at hl 7 rfl) ?_
            refine lv_iconst (v := nI 2) hx hb dX2_value_61 (by decide) ?_
            refine lv_icmp_ne hx hb (tgt := 89) dX2_value_62 (by decide) (fun hc2 => ?_) (fun hc2 => ?_)
            · refine lv_iload hx hb dX2_value_89 (lv_at hl 7 rfl) ?_
              refine lv_if_ne hx hb (tgt := 99) dX2_value_91 (by decide) (fun hc9 => ?_) (fun hc9 => ?_)
              · refine lv_aload hx hb dX2_value_99 (lv_at hl 2 rfl) ?_
                refine lv_iload hx hb dX2_value_101 (lv_at hl 1 rfl) ?_
                refine lv_iload hx hb dX2_value_103 (lv_at hl 0 rfl) ?_
                refine gw_calli (va_runV (As := [.int (nI (64 + ks)), .int (mko (S.2.1 rk).2.1 (64 + ks) i9 6)]) (rest := []) ⟨hx, hb, hml, hown, hts⟩ (c_numberBy l K M (ho rk) (had rk) (S.2.1 rk) (64 + ks) (mko (S.2.1 rk).2.1 (64 + ks) i9 6) hh_h (by omega) (mko_form _ _ _ 6)) (cwV 2 hts gX2_value_X0_numberBy rfl rfl rfl (by decide +kernel) ⟨Nat.le_of_ble_eq_true rfl, Nat.le_of_ble_eq_true rfl⟩) (gw_preV hG hT h_0 rfl) rfl rfl hl.1 rfl (lv_room (Nat.le_of_ble_eq_true rfl)) dX2_value_105 ⟨Nat.le_of_ble_eq_true rfl, Nat.le_of_ble_eq_true rfl⟩) hG (fun r_209 M_210 H locs hw hG => ?_)
                have hr3 := hw.2
                rw [hw.1] at hG
                refine vx_ret ?_
                exact gw_iret hx hb hr hlocks hG hT (by omega) (by omega) dX2_value_108 ⟨rfl, rk, ks, ⟨hrk, rfl⟩, ⟨hks, rfl⟩, hany, by rw [if_neg hq2, if_neg hq0]; exact hr3⟩
              · exact absurd hc9 hq0
            · exact absurd (hc2.trans (by decide)) hq2
        · have hq1 := hq
          refine lv_iload hx hb dX2_value_21 (lv_at hl 4 rfl) ?_
          refine lv_iconst (v := nI 2) hx hb dX2_value_23 (by decide) ?_
          refine lv_icmp_ne hx hb (tgt := 31) dX2_value_24 (by decide) (fun hq => ?_) (fun hq => ?_)
          · refine lv_iconst (v := nI 0) hx hb dX2_value_31 (by decide) ?_
            refine gw_xcallv (vx_runS (As := [.int (nI 0)]) (rest := []) ⟨hx, hb, hml, hown, hts⟩ (c_require l hnt K M (nI 0)) (va_cwS 1 hts gX2_value_X2_require rfl rfl rfl (by decide +kernel) ⟨Nat.le_of_ble_eq_true rfl, Nat.le_of_ble_eq_true rfl⟩) (gw_preS hG hT) rfl rfl hl.1 rfl (lv_room (Nat.le_of_ble_eq_true rfl)) dX2_value_32 ⟨Nat.le_of_ble_eq_true rfl, Nat.le_of_ble_eq_true rfl⟩) hG (fun E9 ce9 q9 M_212 H locs hw hG h7 h8 h9 => ?_) (fun M_212 H locs hw hG => ?_)
            · exact gw_out hemp hlocks hG hT h7 h8 h9 ⟨hw.1, hw.2.1, fun q => q.2.elim hq0 (fun z => z.elim (fun z => hq1 (z.trans (by decide))) (fun z => hq (z.trans (by decide))))⟩ (by omega) (by omega)
            · exact absurd (by decide) hw.2
          · have hq : q9 = 2 := hq.trans (by decide)
            have hany : q9 = 0 ∨ q9 = 1 ∨ q9 = 2 := Or.inr (Or.inr hq)
            refine lv_iconst (v := nI 1) hx hb dX2_value_27 (by decide) ?_
            refine lv_goto (tgt := 32) hx hb dX2_value_28 (by decide) ?_
            refine gw_xcallv (vx_runS (As := [.int (nI 1)]) (rest := []) ⟨hx, hb, hml, hown, hts⟩ (c_require l hnt K M (nI 1)) (va_cwS 1 hts gX2_value_X2_require rfl rfl rfl (by decide +kernel) ⟨Nat.le_of_ble_eq_true rfl, Nat.le_of_ble_eq_true rfl⟩) (gw_preS hG hT) rfl rfl hl.1 rfl (lv_room (Nat.le_of_ble_eq_true rfl)) dX2_value_32 ⟨Nat.le_of_ble_eq_true rfl, Nat.le_of_ble_eq_true rfl⟩) hG (fun E9 ce9 q9 M_214 H locs hw hG h7 h8 h9 => ?_) (fun M_214 H locs hw hG => ?_)
            · exact absurd hw.2.2 (by decide)
            · rw [hw.1] at hG
              refine lv_aload_n hx hb dX2_value_35 rfl (lv_at hl 0 rfl) ?_
              refine gw_get (ci := 3) (C := RX2) (T := TX2) (N := 3) hx hb hts hinX2 hown hK hG c1 rfl 0 (by decide) hf11 (fun _ h9 => h9) rfl dX2_value_36 ?_
              refine lv_iload_n hx hb dX2_value_39 rfl (lv_at hl 1 rfl) ?_
              refine gw_aldq_n (v := some (ho rk)) hx hb hK hG c2 2 rfl (by omega) (by omega) (c3 rk (by omega)).1 dX2_value_40 ?_
              have hh_h := (c3 rk (by omega)).2
              obtain ⟨h_0, h_s, h_n, h_w, h_a, h_t, h_ne⟩ := id hh_h
              refine lv_astore (lv' := [(5, .ref (ho rk)), (0, .ref x), (1, .int (nI rk)), (2, .int (nI ks)), (3, .int i9), (4, .int q9)]) hx hb dX2_value_41 hl (by decide) rfl (fun ls hl => ?_)
              refine lv_bipush (v := nI 64) hx hb dX2_value_43 (by decide) ?_
              refine lv_iload_n hx hb dX2_value_45 rfl (lv_at hl 3 rfl) ?_
              refine gw_iadd hx hb dX2_value_46 ?_
              refine lv_istore (lv' := [(6, .int (nI (64 + ks))), (5, .ref (ho rk)), (0, .ref x), (1, .int (nI rk)), (2, .int (nI ks)), (3, .int i9), (4, .int q9)]) hx hb dX2_value_47 hl (by decide) rfl (fun ls hl => ?_)
              refine lv_aload hx hb dX2_value_49 (lv_at hl 1 rfl) ?_
              refine lv_iload hx hb dX2_value_51 (lv_at hl 0 rfl) ?_
              refine lv_iload_n hx hb dX2_value_53 rfl (lv_at hl 5 rfl) ?_
              refine gw_calli (va_runV (As := [.int (nI (64 + ks)), .int i9]) (rest := []) ⟨hx, hb, hml, hown, hts⟩ (c_makerOf l K M (ho rk) (had rk) (S.2.1 rk) (64 + ks) i9 hh_h (by omega)) (cwV 2 hts gX2_value_X0_makerOf rfl rfl rfl (by decide +kernel) ⟨Nat.le_of_ble_eq_true rfl, Nat.le_of_ble_eq_true rfl⟩) (gw_preV hG hT h_0 rfl) rfl rfl hl.1 rfl (lv_room (Nat.le_of_ble_eq_true rfl)) dX2_value_54 ⟨Nat.le_of_ble_eq_true rfl, Nat.le_of_ble_eq_true rfl⟩) hG (fun r_215 M_216 H locs hw hG => ?_)
              rw [hw.1] at hG
              refine gw_as hw.2 ?_
              refine lv_istore (lv' := [(7, .int (mko (S.2.1 rk).2.1 (64 + ks) i9 6)), (6, .int (nI (64 + ks))), (5, .ref (ho rk)), (0, .ref x), (1, .int (nI rk)), (2, .int (nI ks)), (3, .int i9), (4, .int q9)]) hx hb dX2_value_57 hl (by decide) rfl (fun ls hl => ?_)
              refine lv_iload hx hb dX2_value_59 (lv_at hl 7 rfl) ?_
              refine lv_iconst (v := nI 2) hx hb dX2_value_61 (by decide) ?_
              refine lv_icmp_ne hx hb (tgt := 89) dX2_value_62 (by decide) (fun hc2 => ?_) (fun hc2 => ?_)
              · exact absurd (hq.trans (by decide)) hc2
              · refine lv_iload hx hb dX2_value_65 (lv_at hl 0 rfl) ?_
                refine lv_iconst (v := (-1)) hx hb dX2_value_67 (by decide) ?_
                refine lv_icmp_ne hx hb (tgt := 75) dX2_value_68 (by decide) (fun hm1 => ?_) (fun hm1 => ?_)
                · obtain ⟨mk, hmk, emk⟩ := (mko_form (S.2.1 rk).2.1 (64 + ks) i9 6).resolve_left hm1
                  rw [emk] at hl
                  refine lv_aload hx hb dX2_value_75 (lv_at hl 2 rfl) ?_
                  refine gw_get (ci := 1) (C := RX0) (T := TX0) (N := 5) hx hb hts hinX0 hown hK hG h_0 rfl 2 (by decide) hf60 (fun _ h9 => h9) rfl dX2_value_77 ?_
                  refine lv_iload_n hx hb dX2_value_80 rfl (lv_at hl 5 rfl) ?_
                  refine lv_bipush (v := nI 6) hx hb dX2_value_81 (by decide) ?_
                  refine gw_imul hx hb dX2_value_83 ?_
                  refine lv_iload hx hb dX2_value_84 (lv_at hl 0 rfl) ?_
                  refine gw_iadd hx hb dX2_value_86 ?_
                  refine gw_iald_n hx hb hK hG h_w 0 rfl (by omega) (by omega) dX2_value_87 ?_
                  refine vx_ret ?_
                  exact gw_iret hx hb hr hlocks hG hT (by omega) (by omega) dX2_value_88 ⟨rfl, rk, ks, ⟨hrk, rfl⟩, ⟨hks, rfl⟩, hany, by rw [if_pos hq, if_neg hm1, emk, nI_clamp (by omega)]⟩
                · refine lv_iconst (v := nI 0) hx hb dX2_value_71 (by decide) ?_
                  refine lv_goto (tgt := 88) hx hb dX2_value_72 (by decide) ?_
                  refine vx_ret ?_
                  exact gw_iret hx hb hr hlocks hG hT (by omega) (by omega) dX2_value_88 ⟨rfl, rk, ks, ⟨hrk, rfl⟩, ⟨hks, rfl⟩, hany, by rw [if_pos hq, if_pos hm1]; decide⟩
