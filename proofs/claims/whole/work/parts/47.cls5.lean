theorem cs_holdx {K : gw_C} {M M1 : gw_M} {x : Nat} {S : gst} {aH wl la cap : Nat} {mc : Int32} {g lf : Nat → Option Nat} {ho : Nat → Nat} {had : Nat → Nat → Nat} {my sn : Nat → Nat} {sad : Nat → Nat → Nat} {ro : Nat → Nat}
    (hcs : cs K M x S aH wl la cap mc g lf ho had my sn sad) (hrs : rs M ro x S.2.2.1 aH wl la ho had my sn sad) {i : Nat} (hi : i < 6) {V : hV} (hV : hd K M1 (ho i) (had i) V) (hF : hfr M M1 (had i)) : cs K M1 x (shold S i V) aH wl la cap mc g lf ho had my sn sad ∧ rs M1 ro x S.2.2.1 aH wl la ho had my sn sad := by
  obtain ⟨c0, c1, c2, c3, c4, c5, c6⟩ := hcs
  obtain ⟨r0, r1, r2, r3, r4, r5, r6⟩ := hrs
  have kp : ∀ q, (ro q < 10 + i * 5 ∨ 15 + i * 5 ≤ ro q) → M1 q = M q := fun q hq => hF q (fun j hj z => by
    have h9 := (r4 i hi).2 j hj
    rw [z] at hq
    omega)
  refine ⟨⟨c0, (kp x (by omega)).trans c1, (kp aH (by omega)).trans c2, fun k hk => ⟨(c3 k hk).1, ?_⟩, al_keep c4 (kp wl (by omega)) (fun e he => kp la (by have := r3 e he; omega)), fun k hk => ⟨(c5 k hk).1, (kp _ (by have := (r5 k hk).1; omega)).trans (c5 k hk).2.1, hd_keep (c5 k hk).2.2 (kp _ (by have := (r5 k hk).2.1; omega)) (fun j hj => kp _ (by have := (r5 k hk).2.2 j hj; omega))⟩, c6⟩, r0, r1, r2, fun e he => ?_, r4, r5, r6⟩
  · show hd K M1 (ho k) (had k) (if k = i then V else S.2.1 k)
    by_cases hki : k = i
    · rw [if_pos hki, hki]
      exact hV
    · rw [if_neg hki]
      exact hd_keep (c3 k hk).2 (kp _ (by have := (r4 k hk).1; omega)) (fun j hj => kp _ (by have := (r4 k hk).2 j hj; omega))
  · by_cases hz : (∀ j, j < 5 → la ≠ had i j)
    · rw [hF la hz] at he
      exact r3 e he
    · obtain ⟨j, hj⟩ := Classical.not_forall.mp hz
      obtain ⟨hj5, hj⟩ := Classical.not_imp.mp hj
      have hj : la = had i j := Classical.not_not.mp hj
      obtain ⟨e9, he9⟩ := hd_some (c3 i hi).2 j hj5
      rw [← hj] at he9
      exact r3 e9 he9
/-- another number of replicas -/
theorem cs_setn {K : gw_C} {M M1 : gw_M} {x : Nat} {S : gst} {aH wl la cap : Nat} {mc : Int32} {g lf : Nat → Option Nat} {ho : Nat → Nat} {had : Nat → Nat → Nat} {my sn : Nat → Nat} {sad : Nat → Nat → Nat} {ro : Nat → Nat}
    (hcs : cs K M x S aH wl la cap mc g lf ho had my sn sad) (hrs : rs M ro x S.2.2.1 aH wl la ho had my sn sad) {k9 : Nat} (h2 : 2 ≤ k9) (h6 : k9 ≤ 6) (hM : M1 = gw_up M x (.inr (3, [.ref aH, .ref wl, .int (nI k9)]))) : cs K M1 x (k9, S.2) aH wl la cap mc g lf ho had my sn sad ∧ rs M1 ro x S.2.2.1 aH wl la ho had my sn sad ∧ ofr 60 1000 M M1 ro ro := by
  obtain ⟨c0, c1, c2, c3, c4, c5, c6⟩ := hcs
  obtain ⟨r0, r1, r2, r3, r4, r5, r6⟩ := hrs
  have kp : ∀ q, ro q ≠ 1 → M1 q = M q := fun q hq => by
    rw [hM]
    exact gw_n (fun z => hq (by rw [z]; exact r0))
  refine ⟨⟨⟨h2, h6⟩, by rw [hM]; exact gw_s, (kp aH (by omega)).trans c2, fun k hk => ⟨(c3 k hk).1, hd_keep (c3 k hk).2 (kp _ (by have := (r4 k hk).1; omega)) (fun j hj => kp _ (by have := (r4 k hk).2 j hj; omega))⟩, al_keep c4 (kp wl (by omega)) (fun e he => kp la (by have := r3 e he; omega)), fun k hk => ⟨(c5 k hk).1, (kp _ (by have := (r5 k hk).1; omega)).trans (c5 k hk).2.1, hd_keep (c5 k hk).2.2 (kp _ (by have := (r5 k hk).2.1; omega)) (fun j hj => kp _ (by have := (r5 k hk).2.2 j hj; omega))⟩, c6⟩, ⟨r0, r1, r2, fun e he => ?_, r4, r5, r6⟩, fun q e he => ⟨rfl, fun h1 h2 => (kp q (by omega)).trans he⟩⟩
  by_cases hz : la = x
  · have h4 := r3 _ (by rw [hz]; exact c1)
    exact h4
  · rw [hM, gw_n hz] at he
    exact r3 e he
/-- the first i holdings wiped -/
def swp (S : gst) (i : Nat) : gst := (S.1, (fun k => if k < i then vwp (S.2.1 k) else S.2.1 k), S.2.2)
theorem swp_0 (S : gst) : swp S 0 = S := by
  show (S.1, (fun k => if k < 0 then vwp (S.2.1 k) else S.2.1 k), S.2.2) = S
  have e : (fun k => if k < 0 then vwp (S.2.1 k) else S.2.1 k) = S.2.1 := by
    funext k
    rw [if_neg (by omega)]
  rw [e]
theorem swp_s (S : gst) (i : Nat) : shold (swp S i) i (vwp (S.2.1 i)) = swp S (i + 1) := by
  show (S.1, (fun k => if k = i then vwp (S.2.1 i) else if k < i then vwp (S.2.1 k) else S.2.1 k), S.2.2) = (S.1, (fun k => if k < i + 1 then vwp (S.2.1 k) else S.2.1 k), S.2.2)
  have e : (fun k => if k = i then vwp (S.2.1 i) else if k < i then vwp (S.2.1 k) else S.2.1 k) = (fun k => if k < i + 1 then vwp (S.2.1 k) else S.2.1 k) := by
    funext k
    by_cases h : k = i
    · rw [if_pos h, if_pos (show k < i + 1 by omega), h]
    · rw [if_neg h]
      by_cases h2 : k < i
      · rw [if_pos h2, if_pos (show k < i + 1 by omega)]
      · rw [if_neg h2, if_neg (show ¬ k < i + 1 by omega)]
  rw [e]
def sopen (S : gst) (k : Nat) : gst := (k, (fun j => if j < 6 then vwp (S.2.1 j) else S.2.1 j), 0, S.2.2.2)
def inR (x : Int32) : Prop := ∃ k, (2 ≤ k ∧ k ≤ 6) ∧ x = nI k
theorem inR_of {x : Int32} (h1 : ¬ x < nI 2) (h2 : ¬ nI 6 < x) : inR x := by
  have h0 : ¬ x < 0 := fun z => h1 (by
    simp only [Int32.lt_iff_toInt_lt] at z ⊢
    rw [nI_toInt (by decide)]
    have : (0 : Int32).toInt = 0 := by decide
    omega)
  obtain ⟨k, hk, rfl⟩ := nI_of h0
  refine ⟨k, ⟨Nat.le_of_not_lt fun z => h1 (nI_lt z (by decide)), Nat.le_of_not_lt fun z => h2 (nI_lt z hk)⟩, rfl⟩
theorem inR_ge {x : Int32} (h : inR x) : ¬ x < nI 2 ∧ ¬ nI 6 < x := by
  obtain ⟨k, ⟨h1, h2⟩, rfl⟩ := h
  exact ⟨nI_nlt h1 (by omega), nI_nlt h2 (by decide)⟩
set_option maxHeartbeats 4000000 in
set_option maxRecDepth 100000 in
/-- c_open -/
theorem c_open (l : Launch) (hnt : l.stackTraces = false) (K : gw_C) (M : gw_M) (x : Nat) (ro : Nat → Nat) (S : gst) (n9 : Int32) (hS : CS K M ro x S) : vx_Met l yX2_open wsX2_open ({ frames := 10, cells := 1, slots := 6, locals := 200 } : Room) (va_Pc [.ref x, .int n9] (gw_I K M)) (va_Qv (fun M1 => ∃ k9, (2 ≤ k9 ∧ k9 ≤ 6) ∧ n9 = nI k9 ∧ ∃ ro1, CS K M1 ro1 x (sopen S k9) ∧ ofr 60 1000 M M1 ro ro1) (gw_I K) (gw_A K)) (gw_X K (iae M (¬ inR n9))) 1 6 (gw_A K) := by
  refine vx_ofW (cc := cX2_open) (maxL := 3) (ret := none) (by decide) rfl ?_
  intro p e s m args below meth c s₁ B hml hnone hv
  obtain ⟨hav, hI⟩ := hv
  have hx := B.exec
  have hb := B.bytes
  have hr := B.returns
  have hts := atoms_spec (ws := wsX2_open) B.pre
  have hown : s.vm.findClass RX2 = some m.cls := findClass_of_methodNamed B.named
  have hlocks : meth.locks = false := B.notSynchronized
  have hemp : c.exceptionTable.isEmpty = true := B.noHandlers (hts _ List.mem_cons_self)
  have hT := hI.2.2
  have hK := hT.K
  have hG := hI.B
  have hf11 := hts (.fieldLink RX2 11 "DotGossip" "holdings" "[LDotGossip$Holding;") (by decide +kernel)
  have hf19 := hts (.fieldLink RX2 19 "DotGossip" "wire" "Ljava/util/ArrayList;") (by decide +kernel)
  have hf23 := hts (.fieldLink RX2 23 "DotGossip" "replicaCount" "I") (by decide +kernel)
  have hinX0 : ∀ w ∈ wsX00, w ∈ wsX2_open := by decide +kernel
  have hinX2 : ∀ w ∈ wsX20, w ∈ wsX2_open := by decide +kernel
  have hinJx4a65c : ∀ w ∈ wsJx4a65c0, w ∈ wsX2_open := by decide +kernel
  have hE : entryFrame m args 3 = entryFrame m ([.ref x, .int n9] : List Value).toArray 3 := by rw [hav]
  rw [hE]
  have hl := lv_entry ([.ref x, .int n9]) (n := 3) (Nat.le_of_ble_eq_true rfl)
  rw [lg_entry_eq]
  generalize (lg_sl ([.ref x, .int n9]) ++ List.replicate (3 - (lg_sl ([.ref x, .int n9])).length) Slot.unset).toArray = ls at hl ⊢
  have hl : lv_has ls 3 [(0, .ref x), (1, .int n9)] := hl
  obtain ⟨aH, wl, la, cap, mc, g, lf, ho, had, my, sn, sad, hcs, hrs⟩ := id hS
  obtain ⟨c0, c1, c2, c3, c4, c5, c6⟩ := id hcs
  have hs100 := c4.2.1
  refine lv_iload_n hx hb dX2_open_0 rfl (lv_at hl 1 rfl) ?_
  refine lv_iconst (v := nI 2) hx hb dX2_open_1 (by decide) ?_
  refine lv_icmp_lt hx hb (tgt := 15) dX2_open_2 (by decide) (fun h1 => ?_) (fun h1 => ?_)
  · refine lv_iconst (v := nI 0) hx hb dX2_open_15 (by decide) ?_
    refine gw_xcallv (vx_runS (As := [.int (nI 0)]) (rest := []) ⟨hx, hb, hml, hown, hts⟩ (c_require l hnt K M (nI 0)) (va_cwS 1 hts gX2_open_X2_require rfl rfl rfl (by decide +kernel) ⟨Nat.le_of_ble_eq_true rfl, Nat.le_of_ble_eq_true rfl⟩) (gw_preS hG hT) rfl rfl hl.1 rfl (lv_room (Nat.le_of_ble_eq_true rfl)) dX2_open_16 ⟨Nat.le_of_ble_eq_true rfl, Nat.le_of_ble_eq_true rfl⟩) hG (fun E9 ce9 q9 M_257 H locs hw hG h7 h8 h9 => ?_) (fun M_257 H locs hw hG => ?_)
    · exact gw_out hemp hlocks hG hT h7 h8 h9 ⟨hw.1, hw.2.1, fun q => (inR_ge q).1 h1⟩ (by omega) (by omega)
    · exact absurd (by decide) hw.2
  · refine lv_iload_n hx hb dX2_open_5 rfl (lv_at hl 1 rfl) ?_
    refine lv_bipush (v := nI 6) hx hb dX2_open_6 (by decide) ?_
    refine lv_icmp_gt hx hb (tgt := 15) dX2_open_8 (by decide) (fun h2 => ?_) (fun h2 => ?_)
    · refine lv_iconst (v := nI 0) hx hb dX2_open_15 (by decide) ?_
      refine gw_xcallv (vx_runS (As := [.int (nI 0)]) (rest := []) ⟨hx, hb, hml, hown, hts⟩ (c_require l hnt K M (nI 0)) (va_cwS 1 hts gX2_open_X2_require rfl rfl rfl (by decide +kernel) ⟨Nat.le_of_ble_eq_true rfl, Nat.le_of_ble_eq_true rfl⟩) (gw_preS hG hT) rfl rfl hl.1 rfl (lv_room (Nat.le_of_ble_eq_true rfl)) dX2_open_16 ⟨Nat.le_of_ble_eq_true rfl, Nat.le_of_ble_eq_true rfl⟩) hG (fun E9 ce9 q9 M_259 H locs hw hG h7 h8 h9 => ?_) (fun M_259 H locs hw hG => ?_)
      · exact gw_out hemp hlocks hG hT h7 h8 h9 ⟨hw.1, hw.2.1, fun q => (inR_ge q).2 h2⟩ (by omega) (by omega)
      · exact absurd (by decide) hw.2
    · refine lv_iconst (v := nI 1) hx hb dX2_open_11 (by decide) ?_
      refine lv_goto (tgt := 16) hx hb dX2_open_12 (by decide) ?_
      refine gw_xcallv (vx_runS (As := [.int (nI 1)]) (rest := []) ⟨hx, hb, hml, hown, hts⟩ (c_require l hnt K M (nI 1)) (va_cwS 1 hts gX2_open_X2_require rfl rfl rfl (by decide +kernel) ⟨Nat.le_of_ble_eq_true rfl, Nat.le_of_ble_eq_true rfl⟩) (gw_preS hG hT) rfl rfl hl.1 rfl (lv_room (Nat.le_of_ble_eq_true rfl)) dX2_open_16 ⟨Nat.le_of_ble_eq_true rfl, Nat.le_of_ble_eq_true rfl⟩) hG (fun E9 ce9 q9 M_261 H locs hw hG h7 h8 h9 => ?_) (fun M_261 H locs hw hG => ?_)
      · exact absurd hw.2.2 (by decide)
      · rw [hw.1] at hG
        obtain ⟨k9, hk9, rfl⟩ := inR_of h1 h2
        have hloop : ∀ (n : Nat) (i : Nat), i ≤ 6 → 6 + 1 ≤ i + n → ∀ (Mi : gw_M), (cs K Mi x (swp S i) aH wl la cap mc g lf ho had my sn sad ∧ rs Mi ro x S.2.2.1 aH wl la ho had my sn sad ∧ ofr 60 1000 M Mi ro ro ∧ ∀ q e, M q = some e → ∃ e1, Mi q = some e1) → ∀ (H : Heap) (locs : List Loc), gw_B K Mi s.heap H locs → ∀ (ls : Array Slot), lv_has ls 3 [(2, .int (nI i)), (0, .ref x), (1, .int (nI k9))] → W p l e ({ frames := 10, cells := 1, slots := 6, locals := 200 } : Room) s m args below meth c H locs (0 + 1) (0 + 6) (vx_MQ below (va_Qv (fun M1 => ∃ k8, (2 ≤ k8 ∧ k8 ≤ 6) ∧ nI k9 = nI k8 ∧ ∃ ro1, CS K M1 ro1 x (sopen S k8) ∧ ofr 60 1000 M M1 ro ro1) (gw_I K) (gw_A K)) (gw_X K (iae M (¬ inR (nI k9)))) args s 1 6 (gw_A K)) (F0 m 21 ls []) := by
          intro n
          induction n with
          | zero =>
            intro i hg0 hm
            exact absurd hm (by omega)
          | succ n ih =>
            intro i hg0 hm Mi hMi H locs hG ls hl
            obtain ⟨q1, q2, q3, q4⟩ := hMi
            have hEi := gw_ntE hG hT
            obtain ⟨d0, d1, d2, d3, d4, d5, d6⟩ := id q1
            refine lv_iload_n hx hb dX2_open_21 rfl (lv_at hl 0 rfl) ?_
            refine lv_bipush (v := nI 6) hx hb dX2_open_22 (by decide) ?_
            refine gw_icmp_ge hx hb (by omega) (by omega) (tgt := 42) dX2_open_24 (by decide) (fun hc => ?_) (fun hc => ?_)
            · have e6 : i = 6 := by omega
              refine lv_aload_n hx hb dX2_open_42 rfl (lv_at hl 1 rfl) ?_
              refine gw_get (ci := 3) (C := RX2) (T := TX2) (N := 3) hx hb hts hinX2 hown hK hG d1 rfl 1 (by decide) hf19 (fun _ h9 => h9) rfl dX2_open_43 ?_
              refine gw_callv (va_runV (As := []) (rest := []) ⟨hx, hb, hml, hown, hts⟩ (c_alclear l K Mi wl la cap S.2.2.1 mc lf d4) (cwV 0 hts gX2_open_Jx4a65c_clear_da8c8 rfl rfl rfl (by decide +kernel) ⟨Nat.le_of_ble_eq_true rfl, Nat.le_of_ble_eq_true rfl⟩) (gw_preV hG hT d4.1 rfl) rfl rfl hl.1 rfl (lv_room (Nat.le_of_ble_eq_true rfl)) dX2_open_46 ⟨Nat.le_of_ble_eq_true rfl, Nat.le_of_ble_eq_true rfl⟩) hG (fun M_265 H locs hw hG => ?_)
              obtain ⟨f1, k1, k2⟩ := hw
              have hE := gw_ntE hG hT
              obtain ⟨y1, y2, y3⟩ := cs_list (fr1 := S.2.2.2.1) (to1 := S.2.2.2.2.1) (my1 := my) (sn1 := sn) (sad1 := sad) (mV1 := S.2.2.2.2.2) q1 q2 k1 (Or.inl rfl) k2 hE (fun k h9 => absurd h9 (by omega)) (fun k h9 => absurd h9 (by omega)) (fun k h9 => absurd h9 (by omega)) (fun j k h9 => absurd h9 (by omega))
              refine lv_aload_n hx hb dX2_open_49 rfl (lv_at hl 1 rfl) ?_
              refine lv_iload_n hx hb dX2_open_50 rfl (lv_at hl 2 rfl) ?_
              refine gw_put (ci := 3) (v := .int (nI k9)) (ty := .int) (C := RX2) (T := TX2) (N := 3) hx hb hts hinX2 tyX2 tyX2_ok nmX2 hown hK hG y1.2.1 rfl 2 (by decide) hf23 (fun _ h9 => h9) rfl (by decide +kernel) rfl rfl (Nat.le_of_ble_eq_true rfl) dX2_open_51 (fun H locs hG => ?_)
              obtain ⟨M_266, hM_267⟩ : ∃ M1 : gw_M, M1 = gw_up M_265 x (.inr (3, [.ref aH, .ref wl, .int (nI k9)])) := ⟨_, rfl⟩
              have hG : gw_B K M_266 s.heap H locs := by rw [hM_267]; exact hG
              have hc_268 : M_266 x = some (.inr (3, [.ref aH, .ref wl, .int (nI k9)])) := (congrFun hM_267 _).trans gw_s
              obtain ⟨x1, x2, x3⟩ := cs_setn y1 y2 hk9.1 hk9.2 hM_267
              have h1s : ∀ q e, Mi q = some e → ∃ e1, M_265 q = some e1 := fun q e he => if g1 : q = wl then ⟨_, (congrArg _ g1).trans k1.1⟩ else if g2 : q = la then k1.2.2.elim (fun z => by rw [g2, z.1, hEi] at he; cases he) (fun z => ⟨_, (congrArg _ g2).trans z.1⟩) else ⟨e, k2 q e g1 g2 he⟩
              rw [e6] at x1
              refine vx_ret ?_
              exact gw_vret hx hb hr hlocks hG hT (by omega) (by omega) dX2_open_54 ⟨k9, hk9, rfl, _, ⟨_, _, _, _, _, _, _, _, _, _, _, _, x1, x2⟩, (q3.tr y3 q4).tr x3 (fun q e he => (q4 q e he).elim (fun e1 h1 => h1s q e1 h1))⟩
            · refine lv_aload_n hx hb dX2_open_27 rfl (lv_at hl 1 rfl) ?_
              refine gw_get (ci := 3) (C := RX2) (T := TX2) (N := 3) hx hb hts hinX2 hown hK hG d1 rfl 0 (by decide) hf11 (fun _ h9 => h9) rfl dX2_open_28 ?_
              refine lv_iload_n hx hb dX2_open_31 rfl (lv_at hl 0 rfl) ?_
              refine gw_aldq_n (v := some (ho i)) hx hb hK hG d2 2 rfl (by omega) (by omega) (d3 i (by omega)).1 dX2_open_32 ?_
              have hdi : hd K Mi (ho i) (had i) (S.2.1 i) := by have h8 := (d3 i (by omega)).2; simp only [swp, Nat.lt_irrefl, if_false] at h8; exact h8
              refine gw_callv (va_runV (As := []) (rest := []) ⟨hx, hb, hml, hown, hts⟩ (c_wipe l K Mi (ho i) (had i) (S.2.1 i) hdi) (cwV 0 hts gX2_open_X0_wipe rfl rfl rfl (by decide +kernel) ⟨Nat.le_of_ble_eq_true rfl, Nat.le_of_ble_eq_true rfl⟩) (gw_preV hG hT hdi.1 rfl) rfl rfl hl.1 rfl (lv_room (Nat.le_of_ble_eq_true rfl)) dX2_open_33 ⟨Nat.le_of_ble_eq_true rfl, Nat.le_of_ble_eq_true rfl⟩) hG (fun M_263 H locs hw hG => ?_)
              obtain ⟨w1, w2⟩ := hw
              obtain ⟨z1, z2⟩ := cs_holdx q1 q2 (show i < 6 by omega) (V := vwp (S.2.1 i)) w1 w2
              rw [swp_s] at z1
              have z3 := (cs_hold q1 q2 (show i < 6 by omega) (V := vwp (S.2.1 i)) w1 w2).2
              have z4 : ∀ q e, Mi q = some e → ∃ e1, M_263 q = some e1 := by
                intro q e he
                by_cases h8 : ∀ j, j < 5 → q ≠ had i j
                · exact ⟨e, (w2 q h8).trans he⟩
                · obtain ⟨j, hj⟩ := Classical.not_forall.mp h8
                  obtain ⟨hj5, hj⟩ := Classical.not_imp.mp hj
                  obtain ⟨e9, he9⟩ := hd_some w1 j hj5
                  exact ⟨e9, by rw [Classical.not_not.mp hj]; exact he9⟩
              refine lv_iinc (v := nI (i + 1)) (lv' := [(2, .int (nI (i + 1))), (0, .ref x), (1, .int (nI k9))]) hx hb dX2_open_36 hl (k := 0) rfl (gw_inc _) (by decide) rfl (fun ls hl => ?_)
              refine lv_goto (tgt := 21) hx hb dX2_open_39 (by decide) ?_
              exact ih (i + 1) (by omega) (by omega) _ ⟨z1, z2, q3.tr z3 q4, fun q e he => (q4 q e he).elim (fun e1 h1 => z4 q e1 h1)⟩ _ _ hG ls (lv_sub hl [0, 1, 2] rfl)
        refine lv_iconst (v := nI 0) hx hb dX2_open_19 (by decide) ?_
        refine lv_istore_n (lv' := [(2, .int (nI 0)), (0, .ref x), (1, .int (nI k9))]) hx hb dX2_open_20 rfl hl (by decide) rfl (fun ls hl => ?_)
        exact hloop 7 0 (by omega) (by omega) M ⟨by rw [swp_0]; exact hcs, hrs, ofr.rf, fun q e he => ⟨e, he⟩⟩ _ _ hG ls (lv_sub hl [0, 1, 2] rfl)
