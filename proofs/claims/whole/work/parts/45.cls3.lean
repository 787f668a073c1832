set_option maxHeartbeats 4000000 in
set_option maxRecDepth 100000 in
/-- c_drop -/
theorem c_drop (l : Launch) (hnt : l.stackTraces = false) (K : gw_C) (M : gw_M) (x : Nat) (ro : Nat → Nat) (S : gst) (i9 : Int32) (hS : CS K M ro x S) : vx_Met l yX2_drop wsX2_drop ({ frames := 10, cells := 1, slots := 6, locals := 200 } : Room) (va_Pc [.ref x, .int i9] (gw_I K M)) (va_Qi (fun r M1 => ∃ k, (k < S.2.2.1 ∧ i9 = nI k) ∧ r = nI (S.2.2.2.2.1 k) ∧ ∃ ro1, CS K M1 ro1 x (sdel S k) ∧ ofr 60 1000 M M1 ro ro1) (gw_I K) (gw_A K)) (gw_X K (iae M (¬ inN i9 S.2.2.1))) 1 6 (gw_A K) := by
  refine vx_ofW (cc := cX2_drop) (maxL := 2) (ret := (some .int)) (by decide) rfl ?_
  intro p e s m args below meth c s₁ B hml hnone hv
  obtain ⟨hav, hI⟩ := hv
  have hx := B.exec
  have hb := B.bytes
  have hr := B.returns
  have hts := atoms_spec (ws := wsX2_drop) B.pre
  have hown : s.vm.findClass RX2 = some m.cls := findClass_of_methodNamed B.named
  have hlocks : meth.locks = false := B.notSynchronized
  have hemp : c.exceptionTable.isEmpty = true := B.noHandlers (hts _ List.mem_cons_self)
  have hT := hI.2.2
  have hK := hT.K
  have hG := hI.B
  have hf19 := hts (.fieldLink RX2 19 "DotGossip" "wire" "Ljava/util/ArrayList;") (by decide +kernel)
  have hf98 := hts (.fieldLink RX2 98 "DotGossip$Message" "to" "I") (by decide +kernel)
  have hinX1 : ∀ w ∈ wsX10, w ∈ wsX2_drop := by decide +kernel
  have hinX2 : ∀ w ∈ wsX20, w ∈ wsX2_drop := by decide +kernel
  have hinJx4a65c : ∀ w ∈ wsJx4a65c0, w ∈ wsX2_drop := by decide +kernel
  have hE : entryFrame m args 2 = entryFrame m ([.ref x, .int i9] : List Value).toArray 2 := by rw [hav]
  rw [hE]
  have hl := lv_entry ([.ref x, .int i9]) (n := 2) (Nat.le_of_ble_eq_true rfl)
  rw [lg_entry_eq]
  generalize (lg_sl ([.ref x, .int i9]) ++ List.replicate (2 - (lg_sl ([.ref x, .int i9])).length) Slot.unset).toArray = ls at hl ⊢
  have hl : lv_has ls 2 [(0, .ref x), (1, .int i9)] := hl
  obtain ⟨aH, wl, la, cap, mc, g, lf, ho, had, my, sn, sad, hcs, hrs⟩ := id hS
  obtain ⟨c0, c1, c2, c3, c4, c5, c6⟩ := id hcs
  have hs100 := c4.2.1
  refine lv_iload_n hx hb dX2_drop_0 rfl (lv_at hl 1 rfl) ?_
  refine lv_aload_n hx hb dX2_drop_1 rfl (lv_at hl 0 rfl) ?_
  refine gw_get (ci := 3) (C := RX2) (T := TX2) (N := 3) hx hb hts hinX2 hown hK hG c1 rfl 1 (by decide) hf19 (fun _ h9 => h9) rfl dX2_drop_2 ?_
  refine gw_calli (va_runV (As := []) (rest := [.int i9]) ⟨hx, hb, hml, hown, hts⟩ (c_alsize l K M wl la S.2.2.1 mc c4.1) (cwV 0 hts gX2_drop_Jx4a65c_size_8abf5 rfl rfl rfl (by decide +kernel) ⟨Nat.le_of_ble_eq_true rfl, Nat.le_of_ble_eq_true rfl⟩) (gw_preV hG hT c4.1 rfl) rfl rfl hl.1 rfl (lv_room (Nat.le_of_ble_eq_true rfl)) dX2_drop_5 ⟨Nat.le_of_ble_eq_true rfl, Nat.le_of_ble_eq_true rfl⟩) hG (fun r_217 M_218 H locs hw hG => ?_)
  rw [hw.1] at hG
  refine gw_as hw.2 ?_
  refine gw_xcallv (vx_runS (As := [.int i9, .int (nI S.2.2.1)]) (rest := []) ⟨hx, hb, hml, hown, hts⟩ (c_reqIx l hnt K M i9 (nI S.2.2.1)) (va_cwS 2 hts gX2_drop_X2_requireIndex rfl rfl rfl (by decide +kernel) ⟨Nat.le_of_ble_eq_true rfl, Nat.le_of_ble_eq_true rfl⟩) (gw_preS hG hT) rfl rfl hl.1 rfl (lv_room (Nat.le_of_ble_eq_true rfl)) dX2_drop_8 ⟨Nat.le_of_ble_eq_true rfl, Nat.le_of_ble_eq_true rfl⟩) hG (fun E9 ce9 q9 M_220 H locs hw hG h7 h8 h9 => ?_) (fun M_220 H locs hw hG => ?_)
  · exact gw_out hemp hlocks hG hT h7 h8 h9 ⟨hw.1, hw.2.1, fun q => hw.2.2 ((inN_iff (by omega)).mpr q)⟩ (by omega) (by omega)
  · obtain ⟨k, hk, rfl⟩ := (inN_iff (n := S.2.2.1) (by omega)).mp hw.2
    rw [hw.1] at hG
    refine lv_aload_n hx hb dX2_drop_11 rfl (lv_at hl 0 rfl) ?_
    refine gw_get (ci := 3) (C := RX2) (T := TX2) (N := 3) hx hb hts hinX2 hown hK hG c1 rfl 1 (by decide) hf19 (fun _ h9 => h9) rfl dX2_drop_12 ?_
    refine lv_iload_n hx hb dX2_drop_15 rfl (lv_at hl 1 rfl) ?_
    refine gw_callq (va_runV (As := [.int (nI k)]) (rest := []) ⟨hx, hb, hml, hown, hts⟩ (c_alrem l K M wl la cap S.2.2.1 mc lf k (my k) c4 (fun k9 h9 => ⟨my k9, _, (c5 k9 h9).1, (c5 k9 h9).2.1⟩) hk (c5 k hk).1) (cwV 1 hts gX2_drop_Jx4a65c_remove_915e3 rfl rfl rfl (by decide +kernel) ⟨Nat.le_of_ble_eq_true rfl, Nat.le_of_ble_eq_true rfl⟩) (gw_preV hG hT c4.1 rfl) rfl rfl hl.1 rfl (lv_room (Nat.le_of_ble_eq_true rfl)) dX2_drop_16 ⟨Nat.le_of_ble_eq_true rfl, Nat.le_of_ble_eq_true rfl⟩) hG (fun r_221 M_222 H locs hw hG => ?_)
    obtain ⟨hr1, f1, k1, k2, k3, k4⟩ := hw
    rw [hr1]
    have hE := gw_ntE hG hT
    have hrs9 := hrs
    obtain ⟨r0, r1, r2, r3, r4, r5, r6⟩ := hrs9
    have kq : ∀ q e, ro q ≠ 3 → ro q ≠ 4 → M q = some e → M_222 q = some e := fun q e h3 h4 he => k4 q e (fun z => h3 (by rw [z]; exact r2)) (fun z => h4 (by rw [z]; rw [z] at he; exact r3 e he)) he
    have hmk := kq _ _ (by have := (r5 k hk).1; omega) (by have := (r5 k hk).1; omega) (c5 k hk).2.1
    obtain ⟨hcs1, hrs1, hof1⟩ := cs_list (fr1 := fun j => if j < k then S.2.2.2.1 j else S.2.2.2.1 (j + 1)) (to1 := fun j => if j < k then S.2.2.2.2.1 j else S.2.2.2.2.1 (j + 1)) (my1 := fun j => if j < k then my j else my (j + 1)) (sn1 := fun j => if j < k then sn j else sn (j + 1)) (sad1 := fun j => if j < k then sad j else sad (j + 1)) (mV1 := fun j => if j < k then S.2.2.2.2.2 j else S.2.2.2.2.2 (j + 1)) hcs hrs k1 (Or.inl rfl) k4 hE
      (fun j hj => if h9 : j < k then (by simp only [if_pos h9, k2 j h9]; exact c5 j (by omega)) else (by simp only [if_neg h9, k3 j (by omega) hj]; exact c5 (j + 1) (by omega)))
      (fun j hj => if h9 : j < k then (by simp only [if_pos h9]; exact c6 j (by omega)) else (by simp only [if_neg h9]; exact c6 (j + 1) (by omega)))
      (fun j hj => if h9 : j < k then (by simp only [if_pos h9]; exact r5 j (by omega)) else (by simp only [if_neg h9]; exact r5 (j + 1) (by omega)))
      (fun i j hi hj hij => by by_cases h8 : i < k <;> by_cases h9 : j < k <;> simp only [h8, h9, if_true, if_false] at hij <;> first | exact r6 _ _ (by omega) (by omega) hij | (have := r6 _ _ (by omega) (by omega) hij; omega))
    refine va_castY (C := RX1) (nm := "DotGossip$Message") hx hb hown (hts (.classLink RX2 81 "DotGossip$Message") (by decide +kernel)) hT.2.2.2.2.1.1 (gw_rcv (ci := 2) hK hG hmk rfl) dX2_drop_19 ?_
    refine gw_get (ci := 2) (C := RX1) (T := TX1) (N := 3) hx hb hts hinX1 hown hK hG hmk rfl 1 (by decide) hf98 (fun _ h9 => h9) rfl dX2_drop_22 ?_
    refine vx_ret ?_
    exact gw_iret hx hb hr hlocks hG hT (by omega) (by omega) dX2_drop_25 ⟨k, ⟨hk, rfl⟩, rfl, _, ⟨_, _, _, _, _, _, _, _, _, _, _, _, hcs1, hrs1⟩, hof1⟩

set_option maxHeartbeats 4000000 in
set_option maxRecDepth 100000 in
/-- c_deliver -/
theorem c_deliver (l : Launch) (hnt : l.stackTraces = false) (K : gw_C) (M : gw_M) (x : Nat) (ro : Nat → Nat) (S : gst) (i9 : Int32) (hS : CS K M ro x S) : vx_Met l yX2_deliver wsX2_deliver ({ frames := 10, cells := 1, slots := 6, locals := 200 } : Room) (va_Pc [.ref x, .int i9] (gw_I K M)) (va_Qi (fun r M1 => ∃ k, (k < S.2.2.1 ∧ i9 = nI k) ∧ r = nI (hmf (S.2.1 (S.2.2.2.2.1 k)) (S.2.2.2.2.2 k) 408).2 ∧ ∃ ro1, CS K M1 ro1 x (shold (sdel S k) (S.2.2.2.2.1 k) (hmg (S.2.1 (S.2.2.2.2.1 k)) (S.2.2.2.2.2 k))) ∧ ofr 60 1000 M M1 ro ro1) (gw_I K) (gw_A K)) (gw_X K (iae M (¬ inN i9 S.2.2.1))) 1 6 (gw_A K) := by
  refine vx_ofW (cc := cX2_deliver) (maxL := 3) (ret := (some .int)) (by decide) rfl ?_
  intro p e s m args below meth c s₁ B hml hnone hv
  obtain ⟨hav, hI⟩ := hv
  have hx := B.exec
  have hb := B.bytes
  have hr := B.returns
  have hts := atoms_spec (ws := wsX2_deliver) B.pre
  have hown : s.vm.findClass RX2 = some m.cls := findClass_of_methodNamed B.named
  have hlocks : meth.locks = false := B.notSynchronized
  have hemp : c.exceptionTable.isEmpty = true := B.noHandlers (hts _ List.mem_cons_self)
  have hT := hI.2.2
  have hK := hT.K
  have hG := hI.B
  have hG9 := hI.B
  have hf11 := hts (.fieldLink RX2 11 "DotGossip" "holdings" "[LDotGossip$Holding;") (by decide +kernel)
  have hf19 := hts (.fieldLink RX2 19 "DotGossip" "wire" "Ljava/util/ArrayList;") (by decide +kernel)
  have hf98 := hts (.fieldLink RX2 98 "DotGossip$Message" "to" "I") (by decide +kernel)
  have hf101 := hts (.fieldLink RX2 101 "DotGossip$Message" "sent" "LDotGossip$Holding;") (by decide +kernel)
  have hinX0 : ∀ w ∈ wsX00, w ∈ wsX2_deliver := by decide +kernel
  have hinX1 : ∀ w ∈ wsX10, w ∈ wsX2_deliver := by decide +kernel
  have hinX2 : ∀ w ∈ wsX20, w ∈ wsX2_deliver := by decide +kernel
  have hinJx4a65c : ∀ w ∈ wsJx4a65c0, w ∈ wsX2_deliver := by decide +kernel
  have hE : entryFrame m args 3 = entryFrame m ([.ref x, .int i9] : List Value).toArray 3 := by rw [hav]
  rw [hE]
  have hl := lv_entry ([.ref x, .int i9]) (n := 3) (Nat.le_of_ble_eq_true rfl)
  rw [lg_entry_eq]
  generalize (lg_sl ([.ref x, .int i9]) ++ List.replicate (3 - (lg_sl ([.ref x, .int i9])).length) Slot.unset).toArray = ls at hl ⊢
  have hl : lv_has ls 3 [(0, .ref x), (1, .int i9)] := hl
  obtain ⟨aH, wl, la, cap, mc, g, lf, ho, had, my, sn, sad, hcs, hrs⟩ := id hS
  obtain ⟨c0, c1, c2, c3, c4, c5, c6⟩ := id hcs
  have hs100 := c4.2.1
  refine lv_iload_n hx hb dX2_deliver_0 rfl (lv_at hl 1 rfl) ?_
  refine lv_aload_n hx hb dX2_deliver_1 rfl (lv_at hl 0 rfl) ?_
  refine gw_get (ci := 3) (C := RX2) (T := TX2) (N := 3) hx hb hts hinX2 hown hK hG c1 rfl 1 (by decide) hf19 (fun _ h9 => h9) rfl dX2_deliver_2 ?_
  refine gw_calli (va_runV (As := []) (rest := [.int i9]) ⟨hx, hb, hml, hown, hts⟩ (c_alsize l K M wl la S.2.2.1 mc c4.1) (cwV 0 hts gX2_deliver_Jx4a65c_size_8abf5 rfl rfl rfl (by decide +kernel) ⟨Nat.le_of_ble_eq_true rfl, Nat.le_of_ble_eq_true rfl⟩) (gw_preV hG hT c4.1 rfl) rfl rfl hl.1 rfl (lv_room (Nat.le_of_ble_eq_true rfl)) dX2_deliver_5 ⟨Nat.le_of_ble_eq_true rfl, Nat.le_of_ble_eq_true rfl⟩) hG (fun r_223 M_224 H locs hw hG => ?_)
  rw [hw.1] at hG
  refine gw_as hw.2 ?_
  refine gw_xcallv (vx_runS (As := [.int i9, .int (nI S.2.2.1)]) (rest := []) ⟨hx, hb, hml, hown, hts⟩ (c_reqIx l hnt K M i9 (nI S.2.2.1)) (va_cwS 2 hts gX2_deliver_X2_requireIndex rfl rfl rfl (by decide +kernel) ⟨Nat.le_of_ble_eq_true rfl, Nat.le_of_ble_eq_true rfl⟩) (gw_preS hG hT) rfl rfl hl.1 rfl (lv_room (Nat.le_of_ble_eq_true rfl)) dX2_deliver_8 ⟨Nat.le_of_ble_eq_true rfl, Nat.le_of_ble_eq_true rfl⟩) hG (fun E9 ce9 q9 M_226 H locs hw hG h7 h8 h9 => ?_) (fun M_226 H locs hw hG => ?_)
  · exact gw_out hemp hlocks hG hT h7 h8 h9 ⟨hw.1, hw.2.1, fun q => hw.2.2 ((inN_iff (by omega)).mpr q)⟩ (by omega) (by omega)
  · obtain ⟨k, hk, rfl⟩ := (inN_iff (n := S.2.2.1) (by omega)).mp hw.2
    rw [hw.1] at hG
    refine lv_aload_n hx hb dX2_deliver_11 rfl (lv_at hl 0 rfl) ?_
    refine gw_get (ci := 3) (C := RX2) (T := TX2) (N := 3) hx hb hts hinX2 hown hK hG c1 rfl 1 (by decide) hf19 (fun _ h9 => h9) rfl dX2_deliver_12 ?_
    refine lv_iload_n hx hb dX2_deliver_15 rfl (lv_at hl 1 rfl) ?_
    refine gw_callq (va_runV (As := [.int (nI k)]) (rest := []) ⟨hx, hb, hml, hown, hts⟩ (c_alrem l K M wl la cap S.2.2.1 mc lf k (my k) c4 (fun k9 h9 => ⟨my k9, _, (c5 k9 h9).1, (c5 k9 h9).2.1⟩) hk (c5 k hk).1) (cwV 1 hts gX2_deliver_Jx4a65c_remove_915e3 rfl rfl rfl (by decide +kernel) ⟨Nat.le_of_ble_eq_true rfl, Nat.le_of_ble_eq_true rfl⟩) (gw_preV hG hT c4.1 rfl) rfl rfl hl.1 rfl (lv_room (Nat.le_of_ble_eq_true rfl)) dX2_deliver_16 ⟨Nat.le_of_ble_eq_true rfl, Nat.le_of_ble_eq_true rfl⟩) hG (fun r_227 M_228 H locs hw hG => ?_)
    obtain ⟨hr1, f1, k1, k2, k3, k4⟩ := hw
    rw [hr1]
    have hE := gw_ntE hG hT
    have hrs9 := hrs
    obtain ⟨r0, r1, r2, r3, r4, r5, r6⟩ := hrs9
    have kq : ∀ q e, ro q ≠ 3 → ro q ≠ 4 → M q = some e → M_228 q = some e := fun q e h3 h4 he => k4 q e (fun z => h3 (by rw [z]; exact r2)) (fun z => h4 (by rw [z]; rw [z] at he; exact r3 e he)) he
    have hmk := kq _ _ (by have := (r5 k hk).1; omega) (by have := (r5 k hk).1; omega) (c5 k hk).2.1
    obtain ⟨hcs1, hrs1, hof1⟩ := cs_list (fr1 := fun j => if j < k then S.2.2.2.1 j else S.2.2.2.1 (j + 1)) (to1 := fun j => if j < k then S.2.2.2.2.1 j else S.2.2.2.2.1 (j + 1)) (my1 := fun j => if j < k then my j else my (j + 1)) (sn1 := fun j => if j < k then sn j else sn (j + 1)) (sad1 := fun j => if j < k then sad j else sad (j + 1)) (mV1 := fun j => if j < k then S.2.2.2.2.2 j else S.2.2.2.2.2 (j + 1)) hcs hrs k1 (Or.inl rfl) k4 hE
      (fun j hj => if h9 : j < k then (by simp only [if_pos h9, k2 j h9]; exact c5 j (by omega)) else (by simp only [if_neg h9, k3 j (by omega) hj]; exact c5 (j + 1) (by omega)))
      (fun j hj => if h9 : j < k then (by simp only [if_pos h9]; exact c6 j (by omega)) else (by simp only [if_neg h9]; exact c6 (j + 1) (by omega)))
      (fun j hj => if h9 : j < k then (by simp only [if_pos h9]; exact r5 j (by omega)) else (by simp only [if_neg h9]; exact r5 (j + 1) (by omega)))
      (fun i j hi hj hij => by by_cases h8 : i < k <;> by_cases h9 : j < k <;> simp only [h8, h9, if_true, if_false] at hij <;> first | exact r6 _ _ (by omega) (by omega) hij | (have := r6 _ _ (by omega) (by omega) hij; omega))
    refine va_castY (C := RX1) (nm := "DotGossip$Message") hx hb hown (hts (.classLink RX2 81 "DotGossip$Message") (by decide +kernel)) hT.2.2.2.2.1.1 (gw_rcv (ci := 2) hK hG hmk rfl) dX2_deliver_19 ?_
    have ht6 := (c6 k hk).2
    obtain ⟨d0, d1, d2, d3, d4, d5, d6⟩ := id hcs1
    have hsn : hd K M_228 (sn k) (sad k) (S.2.2.2.2.2 k) := hd_mono (c5 k hk).2.2 (fun q e he hq => hq.elim (fun z => by subst z; exact kq _ e (by have := (r5 k hk).2.1; omega) (by have := (r5 k hk).2.1; omega) he) (fun ⟨j, hj, z⟩ => by subst z; exact kq _ e (by have := (r5 k hk).2.2 j hj; omega) (by have := (r5 k hk).2.2 j hj; omega) he))
    have hdis : ∀ i j, i < 5 → j < 5 → sad k j ≠ had (S.2.2.2.2.1 k) i := fun i j hi hj z => by have g1 := (r5 k hk).2.2 j hj; have g2 := (r4 _ ht6).2 i hi; rw [z] at g1; omega
    refine lv_astore_n (lv' := [(2, .ref (my k)), (0, .ref x), (1, .int (nI k))]) hx hb dX2_deliver_22 rfl hl (by decide) rfl (fun ls hl => ?_)
    refine lv_aload_n hx hb dX2_deliver_23 rfl (lv_at hl 1 rfl) ?_
    refine gw_get (ci := 3) (C := RX2) (T := TX2) (N := 3) hx hb hts hinX2 hown hK hG d1 rfl 0 (by decide) hf11 (fun _ h9 => h9) rfl dX2_deliver_24 ?_
    refine lv_aload_n hx hb dX2_deliver_27 rfl (lv_at hl 0 rfl) ?_
    refine gw_get (ci := 2) (C := RX1) (T := TX1) (N := 3) hx hb hts hinX1 hown hK hG hmk rfl 1 (by decide) hf98 (fun _ h9 => h9) rfl dX2_deliver_28 ?_
    refine gw_aldq_n (v := some (ho (S.2.2.2.2.1 k))) hx hb hK hG d2 2 rfl ht6 (by omega) (d3 _ ht6).1 dX2_deliver_31 ?_
    refine lv_aload_n hx hb dX2_deliver_32 rfl (lv_at hl 0 rfl) ?_
    refine gw_get (ci := 2) (C := RX1) (T := TX1) (N := 3) hx hb hts hinX1 hown hK hG hmk rfl 2 (by decide) hf101 (fun _ h9 => h9) rfl dX2_deliver_33 ?_
    refine gw_calli (va_runV (As := [.ref (sn k)]) (rest := []) ⟨hx, hb, hml, hown, hts⟩ (c_merge l K M_228 (ho (S.2.2.2.2.1 k)) (sn k) (had (S.2.2.2.2.1 k)) (sad k) (S.2.1 (S.2.2.2.2.1 k)) (S.2.2.2.2.2 k) (d3 _ ht6).2 hsn hdis) (cwV 1 hts gX2_deliver_X0_merge rfl rfl rfl (by decide +kernel) ⟨Nat.le_of_ble_eq_true rfl, Nat.le_of_ble_eq_true rfl⟩) (gw_preV hG hT (d3 _ ht6).2.1 rfl) rfl rfl hl.1 rfl (lv_room (Nat.le_of_ble_eq_true rfl)) dX2_deliver_36 ⟨Nat.le_of_ble_eq_true rfl, Nat.le_of_ble_eq_true rfl⟩) hG (fun r_229 M_230 H locs hw hG => ?_)
    obtain ⟨w1, w2, w3, w4⟩ := hw
    obtain ⟨z1, z2⟩ := cs_hold hcs1 hrs1 ht6 w2 w4
    have hsome : ∀ q e, M q = some e → ∃ e1, M_228 q = some e1 := fun q e he => if g1 : q = wl then ⟨_, (congrArg _ g1).trans k1.1⟩ else if g2 : q = la then k1.2.2.elim (fun z => by rw [g2, z.1, gw_ntE hG9 hT] at he; cases he) (fun z => ⟨_, (congrArg _ g2).trans z.1⟩) else ⟨e, k4 q e g1 g2 he⟩
    refine vx_ret ?_
    exact gw_iret hx hb hr hlocks hG hT (by omega) (by omega) dX2_deliver_39 ⟨k, ⟨hk, rfl⟩, w1, _, z1, hof1.tr z2 hsome⟩

set_option maxHeartbeats 4000000 in
set_option maxRecDepth 100000 in
/-- c_turn -/
theorem c_turn (l : Launch) (hnt : l.stackTraces = false) (K : gw_C) (M : gw_M) (x : Nat) (ro : Nat → Nat) (S : gst) (i9 r9 : Int32) (hS : CS K M ro x S) : vx_Met l yX2_turn wsX2_turn ({ frames := 10, cells := 2, slots := 12, locals := 200 } : Room) (va_Pc [.ref x, .int i9, .int r9] (gw_I K M)) (va_Qv (fun M1 => ∃ k rk, (k < S.2.2.1 ∧ i9 = nI k) ∧ (rk < S.1 ∧ r9 = nI rk) ∧ CS K M1 ro x (sto S k rk) ∧ ofr 60 1000 M M1 ro ro) (gw_I K) (gw_A K)) (gw_X K (iae M (¬ (inN i9 S.2.2.1 ∧ inN r9 S.1)))) 2 12 (gw_A K) := by
  refine vx_ofW (cc := cX2_turn) (maxL := 3) (ret := none) (by decide) rfl ?_
  intro p e s m args below meth c s₁ B hml hnone hv
  obtain ⟨hav, hI⟩ := hv
  have hx := B.exec
  have hb := B.bytes
  have hr := B.returns
  have hts := atoms_spec (ws := wsX2_turn) B.pre
  have hown : s.vm.findClass RX2 = some m.cls := findClass_of_methodNamed B.named
  have hlocks : meth.locks = false := B.notSynchronized
  have hemp : c.exceptionTable.isEmpty = true := B.noHandlers (hts _ List.mem_cons_self)
  have hT := hI.2.2
  have hK := hT.K
  have hG := hI.B
  have hf19 := hts (.fieldLink RX2 19 "DotGossip" "wire" "Ljava/util/ArrayList;") (by decide +kernel)
  have hf23 := hts (.fieldLink RX2 23 "DotGossip" "replicaCount" "I") (by decide +kernel)
  have hf98 := hts (.fieldLink RX2 98 "DotGossip$Message" "to" "I") (by decide +kernel)
  have hinX1 : ∀ w ∈ wsX10, w ∈ wsX2_turn := by decide +kernel
  have hinX2 : ∀ w ∈ wsX20, w ∈ wsX2_turn := by decide +kernel
  have hinJx4a65c : ∀ w ∈ wsJx4a65c0, w ∈ wsX2_turn := by decide +kernel
  have hE : entryFrame m args 3 = entryFrame m ([.ref x, .int i9, .int r9] : List Value).toArray 3 := by rw [hav]
  rw [hE]
  have hl := lv_entry ([.ref x, .int i9, .int r9]) (n := 3) (Nat.le_of_ble_eq_true rfl)
  rw [lg_entry_eq]
  generalize (lg_sl ([.ref x, .int i9, .int r9]) ++ List.replicate (3 - (lg_sl ([.ref x, .int i9, .int r9])).length) Slot.unset).toArray = ls at hl ⊢
  have hl : lv_has ls 3 [(0, .ref x), (1, .int i9), (2, .int r9)] := hl
  obtain ⟨aH, wl, la, cap, mc, g, lf, ho, had, my, sn, sad, hcs, hrs⟩ := id hS
  obtain ⟨c0, c1, c2, c3, c4, c5, c6⟩ := id hcs
  have hs100 := c4.2.1
  refine lv_iload_n hx hb dX2_turn_0 rfl (lv_at hl 1 rfl) ?_
  refine lv_aload_n hx hb dX2_turn_1 rfl (lv_at hl 0 rfl) ?_
  refine gw_get (ci := 3) (C := RX2) (T := TX2) (N := 3) hx hb hts hinX2 hown hK hG c1 rfl 1 (by decide) hf19 (fun _ h9 => h9) rfl dX2_turn_2 ?_
  refine gw_calli (va_runV (As := []) (rest := [.int i9]) ⟨hx, hb, hml, hown, hts⟩ (c_alsize l K M wl la S.2.2.1 mc c4.1) (cwV 0 hts gX2_turn_Jx4a65c_size_8abf5 rfl rfl rfl (by decide +kernel) ⟨Nat.le_of_ble_eq_true rfl, Nat.le_of_ble_eq_true rfl⟩) (gw_preV hG hT c4.1 rfl) rfl rfl hl.1 rfl (lv_room (Nat.le_of_ble_eq_true rfl)) dX2_turn_5 ⟨Nat.le_of_ble_eq_true rfl, Nat.le_of_ble_eq_true rfl⟩) hG (fun r_231 M_232 H locs hw hG => ?_)
  rw [hw.1] at hG
  refine gw_as hw.2 ?_
  refine gw_xcallv (vx_runS (As := [.int i9, .int (nI S.2.2.1)]) (rest := []) ⟨hx, hb, hml, hown, hts⟩ (c_reqIx l hnt K M i9 (nI S.2.2.1)) (va_cwS 2 hts gX2_turn_X2_requireIndex rfl rfl rfl (by decide +kernel) ⟨Nat.le_of_ble_eq_true rfl, Nat.le_of_ble_eq_true rfl⟩) (gw_preS hG hT) rfl rfl hl.1 rfl (lv_room (Nat.le_of_ble_eq_true rfl)) dX2_turn_8 ⟨Nat.le_of_ble_eq_true rfl, Nat.le_of_ble_eq_true rfl⟩) hG (fun E9 ce9 q9 M_234 H locs hw hG h7 h8 h9 => ?_) (fun M_234 H locs hw hG => ?_)
  · exact gw_out hemp hlocks hG hT h7 h8 h9 ⟨hw.1, hw.2.1, fun q => hw.2.2 ((inN_iff (by omega)).mpr q.1)⟩ (by omega) (by omega)
  · obtain ⟨k, hk, rfl⟩ := (inN_iff (n := S.2.2.1) (by omega)).mp hw.2
    rw [hw.1] at hG
    refine lv_aload_n hx hb dX2_turn_11 rfl (lv_at hl 0 rfl) ?_
    refine lv_iload_n hx hb dX2_turn_12 rfl (lv_at hl 2 rfl) ?_
    refine gw_xcallv (vx_runV (As := [.int r9]) (rest := []) ⟨hx, hb, hml, hown, hts⟩ (c_reqRep l hnt K M x S.1 _ _ r9 c1 c0.2) (cwV 1 hts gX2_turn_X2_requireReplica rfl rfl rfl (by decide +kernel) ⟨Nat.le_of_ble_eq_true rfl, Nat.le_of_ble_eq_true rfl⟩) (gw_preV hG hT c1 rfl) rfl rfl hl.1 rfl (lv_room (Nat.le_of_ble_eq_true rfl)) dX2_turn_13 ⟨Nat.le_of_ble_eq_true rfl, Nat.le_of_ble_eq_true rfl⟩) hG (fun E9 ce9 q9 M_236 H locs hw hG h7 h8 h9 => ?_) (fun M_236 H locs hw hG => ?_)
    · exact gw_out hemp hlocks hG hT h7 h8 h9 ⟨hw.1, hw.2.1, fun q => hw.2.2 q.2⟩ (by omega) (by omega)
    · obtain ⟨rk, hrk, rfl⟩ := hw.2
      rw [hw.1] at hG
      refine lv_aload_n hx hb dX2_turn_16 rfl (lv_at hl 0 rfl) ?_
      refine gw_get (ci := 3) (C := RX2) (T := TX2) (N := 3) hx hb hts hinX2 hown hK hG c1 rfl 1 (by decide) hf19 (fun _ h9 => h9) rfl dX2_turn_17 ?_
      refine lv_iload_n hx hb dX2_turn_20 rfl (lv_at hl 1 rfl) ?_
      refine gw_callq (va_runV (As := [.int (nI k)]) (rest := []) ⟨hx, hb, hml, hown, hts⟩ (c_alget l K M wl la cap S.2.2.1 mc lf k c4 hk) (cwV 1 hts gX2_turn_Jx4a65c_get_915e3 rfl rfl rfl (by decide +kernel) ⟨Nat.le_of_ble_eq_true rfl, Nat.le_of_ble_eq_true rfl⟩) (gw_preV hG hT c4.1 rfl) rfl rfl hl.1 rfl (lv_room (Nat.le_of_ble_eq_true rfl)) dX2_turn_21 ⟨Nat.le_of_ble_eq_true rfl, Nat.le_of_ble_eq_true rfl⟩) hG (fun r_237 M_238 H locs hw hG => ?_)
      rw [hw.1] at hG
      rw [hw.2, (c5 k hk).1]
      refine va_castY (C := RX1) (nm := "DotGossip$Message") hx hb hown (hts (.classLink RX2 81 "DotGossip$Message") (by decide +kernel)) hT.2.2.2.2.1.1 (gw_rcv (ci := 2) hK hG (c5 k hk).2.1 rfl) dX2_turn_24 ?_
      have hmk := (c5 k hk).2.1
      refine lv_iload_n hx hb dX2_turn_27 rfl (lv_at hl 2 rfl) ?_
      refine gw_put (ci := 2) (v := .int (nI rk)) (ty := .int) (C := RX1) (T := TX1) (N := 3) hx hb hts hinX1 tyX1 tyX1_ok nmX1 hown hK hG hmk rfl 1 (by decide) hf98 (fun _ h9 => h9) rfl (by decide +kernel) rfl rfl (Nat.le_of_ble_eq_true rfl) dX2_turn_28 (fun H locs hG => ?_)
      obtain ⟨M_239, hM_240⟩ : ∃ M1 : gw_M, M1 = gw_up M (my k) (.inr (2, [.int (nI (S.2.2.2.1 k)), .int (nI rk), .ref (sn k)])) := ⟨_, rfl⟩
      have hG : gw_B K M_239 s.heap H locs := by rw [hM_240]; exact hG
      have hc_241 : M_239 (my k) = some (.inr (2, [.int (nI (S.2.2.2.1 k)), .int (nI rk), .ref (sn k)])) := (congrFun hM_240 _).trans gw_s
      obtain ⟨z1, z2⟩ := cs_turn hcs hrs hk (show rk < 6 by omega) hM_240
      refine vx_ret ?_
      exact gw_vret hx hb hr hlocks hG hT (by omega) (by omega) dX2_turn_31 ⟨k, rk, ⟨hk, rfl⟩, ⟨hrk, rfl⟩, z1, z2⟩

set_option maxHeartbeats 4000000 in
set_option maxRecDepth 100000 in
/-- c_message -/
theorem c_message (l : Launch) (hnt : l.stackTraces = false) (K : gw_C) (M : gw_M) (x : Nat) (ro : Nat → Nat) (S : gst) (i9 q9 : Int32) (hS : CS K M ro x S) : vx_Met l yX2_message wsX2_message ({ frames := 10, cells := 2, slots := 12, locals := 200 } : Room) (va_Pc [.ref x, .int i9, .int q9] (gw_I K M)) (va_Qi (fun r M1 => M1 = M ∧ ((q9 = -1 ∧ r = nI S.1) ∨ (q9 = -2 ∧ r = nI S.2.2.1) ∨ (¬ q9 = -1 ∧ ¬ q9 = -2 ∧ ∃ k, (k < S.2.2.1 ∧ i9 = nI k) ∧ inN q9 (S.1 + 2) ∧ r = if q9 = 0 then nI (S.2.2.2.1 k) else if q9 = 1 then nI (S.2.2.2.2.1 k) else (S.2.2.2.2.2 k).1 (q9 - nI 2).toNatClampNeg))) (gw_I K) (gw_A K)) (gw_X K (iae M (¬ q9 = -1 ∧ ¬ q9 = -2 ∧ ¬ (inN i9 S.2.2.1 ∧ inN q9 (S.1 + 2))))) 2 12 (gw_A K) := by
  refine vx_ofW (cc := cX2_message) (maxL := 4) (ret := (some .int)) (by decide) rfl ?_
  intro p e s m args below meth c s₁ B hml hnone hv
  obtain ⟨hav, hI⟩ := hv
  have hx := B.exec
  have hb := B.bytes
  have hr := B.returns
  have hts := atoms_spec (ws := wsX2_message) B.pre
  have hown : s.vm.findClass RX2 = some m.cls := findClass_of_methodNamed B.named
  have hlocks : meth.locks = false := B.notSynchronized
  have hemp : c.exceptionTable.isEmpty = true := B.noHandlers (hts _ List.mem_cons_self)
  have hT := hI.2.2
  have hK := hT.K
  have hG := hI.B
  have hf19 := hts (.fieldLink RX2 19 "DotGossip" "wire" "Ljava/util/ArrayList;") (by decide +kernel)
  have hf23 := hts (.fieldLink RX2 23 "DotGossip" "replicaCount" "I") (by decide +kernel)
  have hf98 := hts (.fieldLink RX2 98 "DotGossip$Message" "to" "I") (by decide +kernel)
  have hf101 := hts (.fieldLink RX2 101 "DotGossip$Message" "sent" "LDotGossip$Holding;") (by decide +kernel)
  have hf112 := hts (.fieldLink RX2 112 "DotGossip$Message" "from" "I") (by decide +kernel)
  have hf124 := hts (.fieldLink RX2 124 "DotGossip$Holding" "seen" "[I") (by decide +kernel)
  have hinX0 : ∀ w ∈ wsX00, w ∈ wsX2_message := by decide +kernel
  have hinX1 : ∀ w ∈ wsX10, w ∈ wsX2_message := by decide +kernel
  have hinX2 : ∀ w ∈ wsX20, w ∈ wsX2_message := by decide +kernel
  have hinJx4a65c : ∀ w ∈ wsJx4a65c0, w ∈ wsX2_message := by decide +kernel
  have hE : entryFrame m args 4 = entryFrame m ([.ref x, .int i9, .int q9] : List Value).toArray 4 := by rw [hav]
  rw [hE]
  have hl := lv_entry ([.ref x, .int i9, .int q9]) (n := 4) (Nat.le_of_ble_eq_true rfl)
  rw [lg_entry_eq]
  generalize (lg_sl ([.ref x, .int i9, .int q9]) ++ List.replicate (4 - (lg_sl ([.ref x, .int i9, .int q9])).length) Slot.unset).toArray = ls at hl ⊢
  have hl : lv_has ls 4 [(0, .ref x), (1, .int i9), (2, .int q9)] := hl
  obtain ⟨aH, wl, la, cap, mc, g, lf, ho, had, my, sn, sad, hcs, hrs⟩ := id hS
  obtain ⟨c0, c1, c2, c3, c4, c5, c6⟩ := id hcs
  have hs100 := c4.2.1
  refine lv_iload_n hx hb dX2_message_0 rfl (lv_at hl 2 rfl) ?_
  refine lv_iconst (v := (-1)) hx hb dX2_message_1 (by decide) ?_
  refine lv_icmp_ne hx hb (tgt := 10) dX2_message_2 (by decide) (fun h1 => ?_) (fun h1 => ?_)
  · refine lv_iload_n hx hb dX2_message_10 rfl (lv_at hl 2 rfl) ?_
    refine lv_bipush (v := (-2)) hx hb dX2_message_11 (by decide) ?_
    refine lv_icmp_ne hx hb (tgt := 24) dX2_message_13 (by decide) (fun h2 => ?_) (fun h2 => ?_)
    · refine lv_iload_n hx hb dX2_message_24 rfl (lv_at hl 1 rfl) ?_
      refine lv_aload_n hx hb dX2_message_25 rfl (lv_at hl 0 rfl) ?_
      refine gw_get (ci := 3) (C := RX2) (T := TX2) (N := 3) hx hb hts hinX2 hown hK hG c1 rfl 1 (by decide) hf19 (fun _ h9 => h9) rfl dX2_message_26 ?_
      refine gw_calli (va_runV (As := []) (rest := [.int i9]) ⟨hx, hb, hml, hown, hts⟩ (c_alsize l K M wl la S.2.2.1 mc c4.1) (cwV 0 hts gX2_message_Jx4a65c_size_8abf5 rfl rfl rfl (by decide +kernel) ⟨Nat.le_of_ble_eq_true rfl, Nat.le_of_ble_eq_true rfl⟩) (gw_preV hG hT c4.1 rfl) rfl rfl hl.1 rfl (lv_room (Nat.le_of_ble_eq_true rfl)) dX2_message_29 ⟨Nat.le_of_ble_eq_true rfl, Nat.le_of_ble_eq_true rfl⟩) hG (fun r_244 M_245 H locs hw hG => ?_)
      rw [hw.1] at hG
      refine gw_as hw.2 ?_
      refine gw_xcallv (vx_runS (As := [.int i9, .int (nI S.2.2.1)]) (rest := []) ⟨hx, hb, hml, hown, hts⟩ (c_reqIx l hnt K M i9 (nI S.2.2.1)) (va_cwS 2 hts gX2_message_X2_requireIndex rfl rfl rfl (by decide +kernel) ⟨Nat.le_of_ble_eq_true rfl, Nat.le_of_ble_eq_true rfl⟩) (gw_preS hG hT) rfl rfl hl.1 rfl (lv_room (Nat.le_of_ble_eq_true rfl)) dX2_message_32 ⟨Nat.le_of_ble_eq_true rfl, Nat.le_of_ble_eq_true rfl⟩) hG (fun E9 ce9 q9 M_247 H locs hw hG h7 h8 h9 => ?_) (fun M_247 H locs hw hG => ?_)
      · exact gw_out hemp hlocks hG hT h7 h8 h9 ⟨hw.1, hw.2.1, h1, h2, fun q => hw.2.2 ((inN_iff (by omega)).mpr q.1)⟩ (by omega) (by omega)
      · obtain ⟨k, hk, rfl⟩ := (inN_iff (n := S.2.2.1) (by omega)).mp hw.2
        rw [hw.1] at hG
        refine lv_iload_n hx hb dX2_message_35 rfl (lv_at hl 2 rfl) ?_
        refine lv_if_lt hx hb (tgt := 53) dX2_message_36 (by decide) (fun h3 => ?_) (fun h3 => ?_)
        · refine lv_iconst (v := nI 0) hx hb dX2_message_53 (by decide) ?_
          refine gw_xcallv (vx_runS (As := [.int (nI 0)]) (rest := []) ⟨hx, hb, hml, hown, hts⟩ (c_require l hnt K M (nI 0)) (va_cwS 1 hts gX2_message_X2_require rfl rfl rfl (by decide +kernel) ⟨Nat.le_of_ble_eq_true rfl, Nat.le_of_ble_eq_true rfl⟩) (gw_preS hG hT) rfl rfl hl.1 rfl (lv_room (Nat.le_of_ble_eq_true rfl)) dX2_message_54 ⟨Nat.le_of_ble_eq_true rfl, Nat.le_of_ble_eq_true rfl⟩) hG (fun E9 ce9 q9 M_249 H locs hw hG h7 h8 h9 => ?_) (fun M_249 H locs hw hG => ?_)
          · exact gw_out hemp hlocks hG hT h7 h8 h9 ⟨hw.1, hw.2.1, h1, h2, fun q => ((inN_iff (by omega)).mpr q.2).1 h3⟩ (by omega) (by omega)
          · exact absurd (by decide) hw.2
        · refine lv_iload_n hx hb dX2_message_39 rfl (lv_at hl 2 rfl) ?_
          refine lv_iconst (v := nI 2) hx hb dX2_message_40 (by decide) ?_
          refine lv_aload_n hx hb dX2_message_41 rfl (lv_at hl 0 rfl) ?_
          refine gw_get (ci := 3) (C := RX2) (T := TX2) (N := 3) hx hb hts hinX2 hown hK hG c1 rfl 2 (by decide) hf23 (fun _ h9 => h9) rfl dX2_message_42 ?_
          refine gw_iadd hx hb dX2_message_45 ?_
          refine lv_icmp_ge hx hb (tgt := 53) dX2_message_46 (by decide) (fun h4 => ?_) (fun h4 => ?_)
          · refine lv_iconst (v := nI 0) hx hb dX2_message_53 (by decide) ?_
            refine gw_xcallv (vx_runS (As := [.int (nI 0)]) (rest := []) ⟨hx, hb, hml, hown, hts⟩ (c_require l hnt K M (nI 0)) (va_cwS 1 hts gX2_message_X2_require rfl rfl rfl (by decide +kernel) ⟨Nat.le_of_ble_eq_true rfl, Nat.le_of_ble_eq_true rfl⟩) (gw_preS hG hT) rfl rfl hl.1 rfl (lv_room (Nat.le_of_ble_eq_true rfl)) dX2_message_54 ⟨Nat.le_of_ble_eq_true rfl, Nat.le_of_ble_eq_true rfl⟩) hG (fun E9 ce9 q9 M_251 H locs hw hG h7 h8 h9 => ?_) (fun M_251 H locs hw hG => ?_)
            · exact gw_out hemp hlocks hG hT h7 h8 h9 ⟨hw.1, hw.2.1, h1, h2, fun q => absurd ((inN_iff (n := S.1 + 2) (by omega)).mpr q.2).2 (by rw [Nat.add_comm 2 S.1] at h4; exact Int32.not_lt.mpr h4)⟩ (by omega) (by omega)
            · exact absurd (by decide) hw.2
          · refine lv_iconst (v := nI 1) hx hb dX2_message_49 (by decide) ?_
            refine lv_goto (tgt := 54) hx hb dX2_message_50 (by decide) ?_
            refine gw_xcallv (vx_runS (As := [.int (nI 1)]) (rest := []) ⟨hx, hb, hml, hown, hts⟩ (c_require l hnt K M (nI 1)) (va_cwS 1 hts gX2_message_X2_require rfl rfl rfl (by decide +kernel) ⟨Nat.le_of_ble_eq_true rfl, Nat.le_of_ble_eq_true rfl⟩) (gw_preS hG hT) rfl rfl hl.1 rfl (lv_room (Nat.le_of_ble_eq_true rfl)) dX2_message_54 ⟨Nat.le_of_ble_eq_true rfl, Nat.le_of_ble_eq_true rfl⟩) hG (fun E9 ce9 q9 M_253 H locs hw hG h7 h8 h9 => ?_) (fun M_253 H locs hw hG => ?_)
            · exact absurd hw.2.2 (by decide)
            · rw [hw.1] at hG
              have hin : inN q9 (S.1 + 2) := (inN_iff (by omega)).mp ⟨h3, by rw [Nat.add_comm 2 S.1] at h4; exact Int32.not_le.mp h4⟩
              refine lv_aload_n hx hb dX2_message_57 rfl (lv_at hl 0 rfl) ?_
              refine gw_get (ci := 3) (C := RX2) (T := TX2) (N := 3) hx hb hts hinX2 hown hK hG c1 rfl 1 (by decide) hf19 (fun _ h9 => h9) rfl dX2_message_58 ?_
              refine lv_iload_n hx hb dX2_message_61 rfl (lv_at hl 1 rfl) ?_
              refine gw_callq (va_runV (As := [.int (nI k)]) (rest := []) ⟨hx, hb, hml, hown, hts⟩ (c_alget l K M wl la cap S.2.2.1 mc lf k c4 hk) (cwV 1 hts gX2_message_Jx4a65c_get_915e3 rfl rfl rfl (by decide +kernel) ⟨Nat.le_of_ble_eq_true rfl, Nat.le_of_ble_eq_true rfl⟩) (gw_preV hG hT c4.1 rfl) rfl rfl hl.1 rfl (lv_room (Nat.le_of_ble_eq_true rfl)) dX2_message_62 ⟨Nat.le_of_ble_eq_true rfl, Nat.le_of_ble_eq_true rfl⟩) hG (fun r_254 M_255 H locs hw hG => ?_)
              rw [hw.1] at hG
              rw [hw.2, (c5 k hk).1]
              have hmk := (c5 k hk).2.1
              refine va_castY (C := RX1) (nm := "DotGossip$Message") hx hb hown (hts (.classLink RX2 81 "DotGossip$Message") (by decide +kernel)) hT.2.2.2.2.1.1 (gw_rcv (ci := 2) hK hG hmk rfl) dX2_message_65 ?_
              refine lv_astore_n (lv' := [(3, .ref (my k)), (0, .ref x), (1, .int (nI k)), (2, .int q9)]) hx hb dX2_message_68 rfl hl (by decide) rfl (fun ls hl => ?_)
              refine lv_iload_n hx hb dX2_message_69 rfl (lv_at hl 3 rfl) ?_
              refine lv_if_ne hx hb (tgt := 78) dX2_message_70 (by decide) (fun h5 => ?_) (fun h5 => ?_)
              · refine lv_iload_n hx hb dX2_message_78 rfl (lv_at hl 3 rfl) ?_
                refine lv_iconst (v := nI 1) hx hb dX2_message_79 (by decide) ?_
                refine lv_icmp_ne hx hb (tgt := 90) dX2_message_80 (by decide) (fun h6 => ?_) (fun h6 => ?_)
                · obtain ⟨qk, hqk, rfl⟩ := hin
                  have hq2 : 2 ≤ qk := (show qk = 0 ∨ qk = 1 ∨ 2 ≤ qk by omega).elim (fun z => by subst z; exact absurd (show nI 0 = (0 : Int32) by decide) h5) (fun z => z.elim (fun z => by subst z; exact absurd rfl h6) id)
                  have hsn := (c5 k hk).2.2
                  obtain ⟨y_0, y_s, y_n, y_w, y_a, y_t, y_ne⟩ := id hsn
                  refine lv_aload_n hx hb dX2_message_90 rfl (lv_at hl 0 rfl) ?_
                  refine gw_get (ci := 2) (C := RX1) (T := TX1) (N := 3) hx hb hts hinX1 hown hK hG hmk rfl 2 (by decide) hf101 (fun _ h9 => h9) rfl dX2_message_91 ?_
                  refine gw_get (ci := 1) (C := RX0) (T := TX0) (N := 5) hx hb hts hinX0 hown hK hG y_0 rfl 0 (by decide) hf124 (fun _ h9 => h9) rfl dX2_message_94 ?_
                  refine lv_iload_n hx hb dX2_message_97 rfl (lv_at hl 3 rfl) ?_
                  refine lv_iconst (v := nI 2) hx hb dX2_message_98 (by decide) ?_
                  refine gw_isub hx hb (by omega) dX2_message_99 ?_
                  refine gw_iald_n hx hb hK hG y_s 0 rfl (by omega) (by omega) dX2_message_100 ?_
                  refine vx_ret ?_
                  exact gw_iret hx hb hr hlocks hG hT (by omega) (by omega) dX2_message_101 ⟨rfl, Or.inr (Or.inr ⟨h1, h2, k, ⟨hk, rfl⟩, ⟨qk, hqk, rfl⟩, by rw [if_neg h5, if_neg (fun z => h6 (z.trans (by decide))), pk_sub hq2, nI_clamp (by omega)]⟩)⟩
                · have h6 : q9 = 1 := h6.trans (by decide)
                  refine lv_aload_n hx hb dX2_message_83 rfl (lv_at hl 0 rfl) ?_
                  refine gw_get (ci := 2) (C := RX1) (T := TX1) (N := 3) hx hb hts hinX1 hown hK hG hmk rfl 1 (by decide) hf98 (fun _ h9 => h9) rfl dX2_message_84 ?_
                  refine lv_goto (tgt := 101) hx hb dX2_message_87 (by decide) ?_
                  refine vx_ret ?_
                  exact gw_iret hx hb hr hlocks hG hT (by omega) (by omega) dX2_message_101 ⟨rfl, Or.inr (Or.inr ⟨h1, h2, k, ⟨hk, rfl⟩, hin, by rw [if_neg h5, if_pos h6]⟩)⟩
              · refine lv_aload_n hx hb dX2_message_73 rfl (lv_at hl 0 rfl) ?_
                refine gw_get (ci := 2) (C := RX1) (T := TX1) (N := 3) hx hb hts hinX1 hown hK hG hmk rfl 0 (by decide) hf112 (fun _ h9 => h9) rfl dX2_message_74 ?_
                refine vx_ret ?_
                exact gw_iret hx hb hr hlocks hG hT (by omega) (by omega) dX2_message_77 ⟨rfl, Or.inr (Or.inr ⟨h1, h2, k, ⟨hk, rfl⟩, hin, by rw [if_pos h5]⟩)⟩
    · refine lv_aload_n hx hb dX2_message_16 rfl (lv_at hl 0 rfl) ?_
      refine gw_get (ci := 3) (C := RX2) (T := TX2) (N := 3) hx hb hts hinX2 hown hK hG c1 rfl 1 (by decide) hf19 (fun _ h9 => h9) rfl dX2_message_17 ?_
      refine gw_calli (va_runV (As := []) (rest := []) ⟨hx, hb, hml, hown, hts⟩ (c_alsize l K M wl la S.2.2.1 mc c4.1) (cwV 0 hts gX2_message_Jx4a65c_size_8abf5 rfl rfl rfl (by decide +kernel) ⟨Nat.le_of_ble_eq_true rfl, Nat.le_of_ble_eq_true rfl⟩) (gw_preV hG hT c4.1 rfl) rfl rfl hl.1 rfl (lv_room (Nat.le_of_ble_eq_true rfl)) dX2_message_20 ⟨Nat.le_of_ble_eq_true rfl, Nat.le_of_ble_eq_true rfl⟩) hG (fun r_242 M_243 H locs hw hG => ?_)
      rw [hw.1] at hG
      refine gw_as hw.2 ?_
      refine vx_ret ?_
      exact gw_iret hx hb hr hlocks hG hT (by omega) (by omega) dX2_message_23 ⟨rfl, Or.inr (Or.inl ⟨h2, rfl⟩)⟩
  · refine lv_aload_n hx hb dX2_message_5 rfl (lv_at hl 0 rfl) ?_
    refine gw_get (ci := 3) (C := RX2) (T := TX2) (N := 3) hx hb hts hinX2 hown hK hG c1 rfl 2 (by decide) hf23 (fun _ h9 => h9) rfl dX2_message_6 ?_
    refine vx_ret ?_
    exact gw_iret hx hb hr hlocks hG hT (by omega) (by omega) dX2_message_9 ⟨rfl, Or.inl ⟨h1, rfl⟩⟩
