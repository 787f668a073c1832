/-- a holding of nothing -/
abbrev hV0 : hV := (fun _ => 0, fun _ => 0, fun _ => 0, fun _ => 0, fun _ => 0)
/-- the old cells but h are as they were -/
def kfr (M M1 : gw_M) (h : Nat) : Prop := ∀ q e, q ≠ h → M q = some e → M1 q = some e
set_option maxHeartbeats 4000000 in
set_option maxRecDepth 100000 in
/-- Holding() -/
theorem c_hinit (l : Launch) (K : gw_C) (M : gw_M) (h : Nat) (hh : M h = some (.inr (1, [.null, .null, .null, .null, .null]))) : Met l yX0_init wsX0_init ({ frames := 1, cells := 5, slots := 486, locals := 12 } : Room) (va_Pc [.ref h] (gw_I K M)) (va_Qv (fun M1 => ∃ ad : Nat → Nat, hd K M1 h ad hV0 ∧ kfr M M1 h ∧ ∀ i, i < 5 → M (ad i) = none) (gw_I K) (gw_A K)) 5 486 (gw_A K) := by
  refine Met.ofW (cc := cX0_init) (maxL := 1) (ret := none) (by decide) rfl ?_
  intro p e s m args below meth c s₁ B hml hv
  obtain ⟨hav, hI⟩ := hv
  have hx := B.exec
  have hb := B.bytes
  have hr := B.returns
  have hts := atoms_spec (ws := wsX0_init) B.pre
  have hown : s.vm.findClass RX0 = some m.cls := findClass_of_methodNamed B.named
  have hlocks : meth.locks = false := B.notSynchronized
  have hT := hI.2.2
  have hK := hT.K
  have hG := hI.B
  have hf9 := hts (.fieldLink RX0 9 "DotGossip$Holding" "seen" "[I") (by decide +kernel)
  have hf15 := hts (.fieldLink RX0 15 "DotGossip$Holding" "numbers" "[I") (by decide +kernel)
  have hf18 := hts (.fieldLink RX0 18 "DotGossip$Holding" "written" "[I") (by decide +kernel)
  have hf21 := hts (.fieldLink RX0 21 "DotGossip$Holding" "added" "[J") (by decide +kernel)
  have hf25 := hts (.fieldLink RX0 25 "DotGossip$Holding" "taken" "[J") (by decide +kernel)
  have hinX0 : ∀ w ∈ wsX00, w ∈ wsX0_init := by decide +kernel
  have hE : entryFrame m args 1 = entryFrame m ([.ref h] : List Value).toArray 1 := by rw [hav]
  rw [hE]
  have hl := lv_entry ([.ref h]) (n := 1) (Nat.le_of_ble_eq_true rfl)
  rw [lg_entry_eq]
  generalize (lg_sl ([.ref h]) ++ List.replicate (1 - (lg_sl ([.ref h])).length) Slot.unset).toArray = ls at hl ⊢
  have hl : lv_has ls 1 [(0, .ref h)] := hl
  have hini : meth.name = "<init>" := (name_of_methodNamed B.named B.method).1
  refine lv_aload_n hx hb dX0_init_0 rfl (lv_at hl 0 rfl) ?_
  refine W.objInit hx hb hown (hts (.methodLink RX0 3 objectInit) (by decide +kernel)) (hts (.instanceMethod objectInit) (by decide +kernel)) (hts (.code objectInit ⟨#[0xb1]⟩ 1 none) (by decide +kernel)) rfl (by rw [hml]; exact hl.1) rfl dX0_init_1 (Nat.le_of_ble_eq_true rfl) (Nat.le_of_ble_eq_true rfl) ?_
  refine W.eq (g2 := F0 m 4 ls []) rfl ?_
  refine lv_aload_n hx hb dX0_init_4 rfl (lv_at hl 0 rfl) ?_
  refine lv_bipush (v := nI 6) hx hb dX0_init_5 (by decide) ?_
  refine gw_newa (atype := .int) (ty := .int) (a0 := (6, .inl (fun _ => 0))) (n := nI 6) (N' := 6) hx hb (hts (.arrayClass .int) (by decide +kernel)) rfl hK hG 0 rfl (fun _ => rfl) (by decide) (by decide) (by decide) (Nat.le_of_ble_eq_true rfl) (Nat.le_of_ble_eq_true rfl) dX0_init_7 (fun q_48 H hq_49 hG => ?_)
  obtain ⟨M_50, hM_51⟩ : ∃ M1 : gw_M, M1 = gw_up M q_48 (.inl (K.2.1 0, 6, .inl (fun _ => 0))) := ⟨_, rfl⟩
  have hG : gw_B K M_50 s.heap H [] := by rw [hM_51]; exact hG
  have hne_53 : h ≠ q_48 := gw_ne hq_49 hh
  have hc_52 := (congrFun hM_51 h).trans (gw_k hne_53 hh)
  have hc_54 : M_50 q_48 = some (.inl (K.2.1 0, 6, .inl (fun _ => 0))) := (congrFun hM_51 _).trans gw_s
  refine gw_putF (ci := 1) (v := .ref q_48) (ty := .array .int) (C := RX0) (T := TX0) (N := 5) hx hb hts hinX0 tyX0 tyX0_ok nmX0 hown hK hG hc_52 rfl 0 (by decide) hf9 (fun _ h9 => h9) rfl hini rfl (by decide +kernel) rfl rfl (Nat.le_of_ble_eq_true rfl) dX0_init_9 (fun H locs hG => ?_)
  obtain ⟨M_55, hM_56⟩ : ∃ M1 : gw_M, M1 = gw_up M_50 h (.inr (1, [.ref q_48, .null, .null, .null, .null])) := ⟨_, rfl⟩
  have hG : gw_B K M_55 s.heap H locs := by rw [hM_56]; exact hG
  have hc_57 : M_55 h = some (.inr (1, [.ref q_48, .null, .null, .null, .null])) := (congrFun hM_56 _).trans gw_s
  have hc_58 := (congrFun hM_56 q_48).trans (gw_k (Ne.symm hne_53) hc_54)
  refine lv_aload_n hx hb dX0_init_12 rfl (lv_at hl 0 rfl) ?_
  refine lv_sipush (v := nI 408) hx hb dX0_init_13 (by decide) ?_
  refine gw_newa (atype := .int) (ty := .int) (a0 := (408, .inl (fun _ => 0))) (n := nI 408) (N' := 408) hx hb (hts (.arrayClass .int) (by decide +kernel)) rfl hK hG 0 rfl (fun _ => rfl) (by decide) (by decide) (by decide) (Nat.le_of_ble_eq_true rfl) (Nat.le_of_ble_eq_true rfl) dX0_init_16 (fun q_59 H hq_60 hG => ?_)
  obtain ⟨M_61, hM_62⟩ : ∃ M1 : gw_M, M1 = gw_up M_55 q_59 (.inl (K.2.1 0, 408, .inl (fun _ => 0))) := ⟨_, rfl⟩
  have hG : gw_B K M_61 s.heap H locs := by rw [hM_62]; exact hG
  have hne_64 : h ≠ q_59 := gw_ne hq_60 hc_57
  have hc_63 := (congrFun hM_62 h).trans (gw_k hne_64 hc_57)
  have hne_66 : q_48 ≠ q_59 := gw_ne hq_60 hc_58
  have hc_65 := (congrFun hM_62 q_48).trans (gw_k hne_66 hc_58)
  have hc_67 : M_61 q_59 = some (.inl (K.2.1 0, 408, .inl (fun _ => 0))) := (congrFun hM_62 _).trans gw_s
  refine gw_putF (ci := 1) (v := .ref q_59) (ty := .array .int) (C := RX0) (T := TX0) (N := 5) hx hb hts hinX0 tyX0 tyX0_ok nmX0 hown hK hG hc_63 rfl 1 (by decide) hf15 (fun _ h9 => h9) rfl hini rfl (by decide +kernel) rfl rfl (Nat.le_of_ble_eq_true rfl) dX0_init_18 (fun H locs hG => ?_)
  obtain ⟨M_68, hM_69⟩ : ∃ M1 : gw_M, M1 = gw_up M_61 h (.inr (1, [.ref q_48, .ref q_59, .null, .null, .null])) := ⟨_, rfl⟩
  have hG : gw_B K M_68 s.heap H locs := by rw [hM_69]; exact hG
  have hc_70 : M_68 h = some (.inr (1, [.ref q_48, .ref q_59, .null, .null, .null])) := (congrFun hM_69 _).trans gw_s
  have hc_71 := (congrFun hM_69 q_48).trans (gw_k (Ne.symm hne_53) hc_65)
  have hc_72 := (congrFun hM_69 q_59).trans (gw_k (Ne.symm hne_64) hc_67)
  refine lv_aload_n hx hb dX0_init_21 rfl (lv_at hl 0 rfl) ?_
  refine lv_bipush (v := nI 24) hx hb dX0_init_22 (by decide) ?_
  refine gw_newa (atype := .int) (ty := .int) (a0 := (24, .inl (fun _ => 0))) (n := nI 24) (N' := 24) hx hb (hts (.arrayClass .int) (by decide +kernel)) rfl hK hG 0 rfl (fun _ => rfl) (by decide) (by decide) (by decide) (Nat.le_of_ble_eq_true rfl) (Nat.le_of_ble_eq_true rfl) dX0_init_24 (fun q_73 H hq_74 hG => ?_)
  obtain ⟨M_75, hM_76⟩ : ∃ M1 : gw_M, M1 = gw_up M_68 q_73 (.inl (K.2.1 0, 24, .inl (fun _ => 0))) := ⟨_, rfl⟩
  have hG : gw_B K M_75 s.heap H locs := by rw [hM_76]; exact hG
  have hne_78 : h ≠ q_73 := gw_ne hq_74 hc_70
  have hc_77 := (congrFun hM_76 h).trans (gw_k hne_78 hc_70)
  have hne_80 : q_48 ≠ q_73 := gw_ne hq_74 hc_71
  have hc_79 := (congrFun hM_76 q_48).trans (gw_k hne_80 hc_71)
  have hne_82 : q_59 ≠ q_73 := gw_ne hq_74 hc_72
  have hc_81 := (congrFun hM_76 q_59).trans (gw_k hne_82 hc_72)
  have hc_83 : M_75 q_73 = some (.inl (K.2.1 0, 24, .inl (fun _ => 0))) := (congrFun hM_76 _).trans gw_s
  refine gw_putF (ci := 1) (v := .ref q_73) (ty := .array .int) (C := RX0) (T := TX0) (N := 5) hx hb hts hinX0 tyX0 tyX0_ok nmX0 hown hK hG hc_77 rfl 2 (by decide) hf18 (fun _ h9 => h9) rfl hini rfl (by decide +kernel) rfl rfl (Nat.le_of_ble_eq_true rfl) dX0_init_26 (fun H locs hG => ?_)
  obtain ⟨M_84, hM_85⟩ : ∃ M1 : gw_M, M1 = gw_up M_75 h (.inr (1, [.ref q_48, .ref q_59, .ref q_73, .null, .null])) := ⟨_, rfl⟩
  have hG : gw_B K M_84 s.heap H locs := by rw [hM_85]; exact hG
  have hc_86 : M_84 h = some (.inr (1, [.ref q_48, .ref q_59, .ref q_73, .null, .null])) := (congrFun hM_85 _).trans gw_s
  have hc_87 := (congrFun hM_85 q_48).trans (gw_k (Ne.symm hne_53) hc_79)
  have hc_88 := (congrFun hM_85 q_59).trans (gw_k (Ne.symm hne_64) hc_81)
  have hc_89 := (congrFun hM_85 q_73).trans (gw_k (Ne.symm hne_78) hc_83)
  refine lv_aload_n hx hb dX0_init_29 rfl (lv_at hl 0 rfl) ?_
  refine lv_bipush (v := nI 24) hx hb dX0_init_30 (by decide) ?_
  refine gw_newa (atype := .long) (ty := .long) (a0 := (24, .inr (.inl (fun _ => 0)))) (n := nI 24) (N' := 24) hx hb (hts (.arrayClass .long) (by decide +kernel)) rfl hK hG 1 rfl (fun _ => rfl) (by decide) (by decide) (by decide) (Nat.le_of_ble_eq_true rfl) (Nat.le_of_ble_eq_true rfl) dX0_init_32 (fun q_90 H hq_91 hG => ?_)
  obtain ⟨M_92, hM_93⟩ : ∃ M1 : gw_M, M1 = gw_up M_84 q_90 (.inl (K.2.1 1, 24, .inr (.inl (fun _ => 0)))) := ⟨_, rfl⟩
  have hG : gw_B K M_92 s.heap H locs := by rw [hM_93]; exact hG
  have hne_95 : h ≠ q_90 := gw_ne hq_91 hc_86
  have hc_94 := (congrFun hM_93 h).trans (gw_k hne_95 hc_86)
  have hne_97 : q_48 ≠ q_90 := gw_ne hq_91 hc_87
  have hc_96 := (congrFun hM_93 q_48).trans (gw_k hne_97 hc_87)
  have hne_99 : q_59 ≠ q_90 := gw_ne hq_91 hc_88
  have hc_98 := (congrFun hM_93 q_59).trans (gw_k hne_99 hc_88)
  have hne_101 : q_73 ≠ q_90 := gw_ne hq_91 hc_89
  have hc_100 := (congrFun hM_93 q_73).trans (gw_k hne_101 hc_89)
  have hc_102 : M_92 q_90 = some (.inl (K.2.1 1, 24, .inr (.inl (fun _ => 0)))) := (congrFun hM_93 _).trans gw_s
  refine gw_putF (ci := 1) (v := .ref q_90) (ty := .array .long) (C := RX0) (T := TX0) (N := 5) hx hb hts hinX0 tyX0 tyX0_ok nmX0 hown hK hG hc_94 rfl 3 (by decide) hf21 (fun _ h9 => h9) rfl hini rfl (by decide +kernel) rfl rfl (Nat.le_of_ble_eq_true rfl) dX0_init_34 (fun H locs hG => ?_)
  obtain ⟨M_103, hM_104⟩ : ∃ M1 : gw_M, M1 = gw_up M_92 h (.inr (1, [.ref q_48, .ref q_59, .ref q_73, .ref q_90, .null])) := ⟨_, rfl⟩
  have hG : gw_B K M_103 s.heap H locs := by rw [hM_104]; exact hG
  have hc_105 : M_103 h = some (.inr (1, [.ref q_48, .ref q_59, .ref q_73, .ref q_90, .null])) := (congrFun hM_104 _).trans gw_s
  have hc_106 := (congrFun hM_104 q_48).trans (gw_k (Ne.symm hne_53) hc_96)
  have hc_107 := (congrFun hM_104 q_59).trans (gw_k (Ne.symm hne_64) hc_98)
  have hc_108 := (congrFun hM_104 q_73).trans (gw_k (Ne.symm hne_78) hc_100)
  have hc_109 := (congrFun hM_104 q_90).trans (gw_k (Ne.symm hne_95) hc_102)
  refine lv_aload_n hx hb dX0_init_37 rfl (lv_at hl 0 rfl) ?_
  refine lv_bipush (v := nI 24) hx hb dX0_init_38 (by decide) ?_
  refine gw_newa (atype := .long) (ty := .long) (a0 := (24, .inr (.inl (fun _ => 0)))) (n := nI 24) (N' := 24) hx hb (hts (.arrayClass .long) (by decide +kernel)) rfl hK hG 1 rfl (fun _ => rfl) (by decide) (by decide) (by decide) (Nat.le_of_ble_eq_true rfl) (Nat.le_of_ble_eq_true rfl) dX0_init_40 (fun q_110 H hq_111 hG => ?_)
  obtain ⟨M_112, hM_113⟩ : ∃ M1 : gw_M, M1 = gw_up M_103 q_110 (.inl (K.2.1 1, 24, .inr (.inl (fun _ => 0)))) := ⟨_, rfl⟩
  have hG : gw_B K M_112 s.heap H locs := by rw [hM_113]; exact hG
  have hne_115 : h ≠ q_110 := gw_ne hq_111 hc_105
  have hc_114 := (congrFun hM_113 h).trans (gw_k hne_115 hc_105)
  have hne_117 : q_48 ≠ q_110 := gw_ne hq_111 hc_106
  have hc_116 := (congrFun hM_113 q_48).trans (gw_k hne_117 hc_106)
  have hne_119 : q_59 ≠ q_110 := gw_ne hq_111 hc_107
  have hc_118 := (congrFun hM_113 q_59).trans (gw_k hne_119 hc_107)
  have hne_121 : q_73 ≠ q_110 := gw_ne hq_111 hc_108
  have hc_120 := (congrFun hM_113 q_73).trans (gw_k hne_121 hc_108)
  have hne_123 : q_90 ≠ q_110 := gw_ne hq_111 hc_109
  have hc_122 := (congrFun hM_113 q_90).trans (gw_k hne_123 hc_109)
  have hc_124 : M_112 q_110 = some (.inl (K.2.1 1, 24, .inr (.inl (fun _ => 0)))) := (congrFun hM_113 _).trans gw_s
  refine gw_putF (ci := 1) (v := .ref q_110) (ty := .array .long) (C := RX0) (T := TX0) (N := 5) hx hb hts hinX0 tyX0 tyX0_ok nmX0 hown hK hG hc_114 rfl 4 (by decide) hf25 (fun _ h9 => h9) rfl hini rfl (by decide +kernel) rfl rfl (Nat.le_of_ble_eq_true rfl) dX0_init_42 (fun H locs hG => ?_)
  obtain ⟨M_125, hM_126⟩ : ∃ M1 : gw_M, M1 = gw_up M_112 h (.inr (1, [.ref q_48, .ref q_59, .ref q_73, .ref q_90, .ref q_110])) := ⟨_, rfl⟩
  have hG : gw_B K M_125 s.heap H locs := by rw [hM_126]; exact hG
  have hc_127 : M_125 h = some (.inr (1, [.ref q_48, .ref q_59, .ref q_73, .ref q_90, .ref q_110])) := (congrFun hM_126 _).trans gw_s
  have hc_128 := (congrFun hM_126 q_48).trans (gw_k (Ne.symm hne_53) hc_116)
  have hc_129 := (congrFun hM_126 q_59).trans (gw_k (Ne.symm hne_64) hc_118)
  have hc_130 := (congrFun hM_126 q_73).trans (gw_k (Ne.symm hne_78) hc_120)
  have hc_131 := (congrFun hM_126 q_90).trans (gw_k (Ne.symm hne_95) hc_122)
  have hc_132 := (congrFun hM_126 q_110).trans (gw_k (Ne.symm hne_115) hc_124)
  have hold : ∀ q e, q ≠ h → M q = some e → M_125 q = some e := by
    intro q e9 hq he
    have he := (congrFun hM_51 q).trans (gw_o hq_49 he)
    have he := (congrFun hM_56 q).trans (gw_k hq he)
    have he := (congrFun hM_62 q).trans (gw_o hq_60 he)
    have he := (congrFun hM_69 q).trans (gw_k hq he)
    have he := (congrFun hM_76 q).trans (gw_o hq_74 he)
    have he := (congrFun hM_85 q).trans (gw_k hq he)
    have he := (congrFun hM_93 q).trans (gw_o hq_91 he)
    have he := (congrFun hM_104 q).trans (gw_k hq he)
    have he := (congrFun hM_113 q).trans (gw_o hq_111 he)
    have he := (congrFun hM_126 q).trans (gw_k hq he)
    exact he
  have hz0 : M q_48 = none := by
    cases hz : M q_48 with
    | none => rfl
    | some e9 =>
      exfalso
      have he := hz
      rw [hq_49] at he
      cases he
  have hz1 : M q_59 = none := by
    cases hz : M q_59 with
    | none => rfl
    | some e9 =>
      exfalso
      have he := hz
      have he := (congrFun hM_51 q_59).trans (gw_o hq_49 he)
      have he := (congrFun hM_56 q_59).trans (gw_k (Ne.symm hne_64) he)
      rw [hq_60] at he
      cases he
  have hz2 : M q_73 = none := by
    cases hz : M q_73 with
    | none => rfl
    | some e9 =>
      exfalso
      have he := hz
      have he := (congrFun hM_51 q_73).trans (gw_o hq_49 he)
      have he := (congrFun hM_56 q_73).trans (gw_k (Ne.symm hne_78) he)
      have he := (congrFun hM_62 q_73).trans (gw_o hq_60 he)
      have he := (congrFun hM_69 q_73).trans (gw_k (Ne.symm hne_78) he)
      rw [hq_74] at he
      cases he
  have hz3 : M q_90 = none := by
    cases hz : M q_90 with
    | none => rfl
    | some e9 =>
      exfalso
      have he := hz
      have he := (congrFun hM_51 q_90).trans (gw_o hq_49 he)
      have he := (congrFun hM_56 q_90).trans (gw_k (Ne.symm hne_95) he)
      have he := (congrFun hM_62 q_90).trans (gw_o hq_60 he)
      have he := (congrFun hM_69 q_90).trans (gw_k (Ne.symm hne_95) he)
      have he := (congrFun hM_76 q_90).trans (gw_o hq_74 he)
      have he := (congrFun hM_85 q_90).trans (gw_k (Ne.symm hne_95) he)
      rw [hq_91] at he
      cases he
  have hz4 : M q_110 = none := by
    cases hz : M q_110 with
    | none => rfl
    | some e9 =>
      exfalso
      have he := hz
      have he := (congrFun hM_51 q_110).trans (gw_o hq_49 he)
      have he := (congrFun hM_56 q_110).trans (gw_k (Ne.symm hne_115) he)
      have he := (congrFun hM_62 q_110).trans (gw_o hq_60 he)
      have he := (congrFun hM_69 q_110).trans (gw_k (Ne.symm hne_115) he)
      have he := (congrFun hM_76 q_110).trans (gw_o hq_74 he)
      have he := (congrFun hM_85 q_110).trans (gw_k (Ne.symm hne_115) he)
      have he := (congrFun hM_93 q_110).trans (gw_o hq_91 he)
      have he := (congrFun hM_104 q_110).trans (gw_k (Ne.symm hne_115) he)
      rw [hq_111] at he
      cases he
  have hdd : hd K M_125 h (fun i => match i with | 0 => q_48 | 1 => q_59 | 2 => q_73 | 3 => q_90 | _ => q_110) hV0 := by
    refine ⟨hc_127, hc_128, hc_129, hc_130, hc_131, hc_132, ?_⟩
    intro i j hi hj hij
    rcases (show i = 0 ∨ i = 1 ∨ i = 2 ∨ i = 3 ∨ i = 4 by omega) with rfl | rfl | rfl | rfl | rfl <;> rcases (show j = 0 ∨ j = 1 ∨ j = 2 ∨ j = 3 ∨ j = 4 by omega) with rfl | rfl | rfl | rfl | rfl <;> first | rfl | exact absurd hij (by first | exact hne_66 | exact hne_80 | exact hne_97 | exact hne_117 | exact (Ne.symm hne_66) | exact hne_82 | exact hne_99 | exact hne_119 | exact (Ne.symm hne_80) | exact (Ne.symm hne_82) | exact hne_101 | exact hne_121 | exact (Ne.symm hne_97) | exact (Ne.symm hne_99) | exact (Ne.symm hne_101) | exact hne_123 | exact (Ne.symm hne_117) | exact (Ne.symm hne_119) | exact (Ne.symm hne_121) | exact (Ne.symm hne_123))
  exact gw_vret hx hb hr hlocks hG hT (by omega) (by omega) dX0_init_45 ⟨_, hdd, hold, fun i hi => by rcases (show i = 0 ∨ i = 1 ∨ i = 2 ∨ i = 3 ∨ i = 4 by omega) with rfl | rfl | rfl | rfl | rfl <;> assumption⟩

set_option maxHeartbeats 4000000 in
set_option maxRecDepth 100000 in
/-- Message() -/
theorem c_minit (l : Launch) (K : gw_C) (M : gw_M) (h g : Nat) (fr to9 : Int32) (hh : M h = some (.inr (2, [.int 0, .int 0, .null]))) : Met l yX1_init wsX1_init ({ frames := 1, cells := 0, slots := 0, locals := 12 } : Room) (va_Pc [.ref h, .int fr, .int to9, .ref g] (gw_I K M)) (va_Qv (fun M1 => M1 = gw_up M h (.inr (2, [.int fr, .int to9, .ref g]))) (gw_I K) (gw_A K)) 0 0 (gw_A K) := by
  refine Met.ofW (cc := cX1_init) (maxL := 4) (ret := none) (by decide) rfl ?_
  intro p e s m args below meth c s₁ B hml hv
  obtain ⟨hav, hI⟩ := hv
  have hx := B.exec
  have hb := B.bytes
  have hr := B.returns
  have hts := atoms_spec (ws := wsX1_init) B.pre
  have hown : s.vm.findClass RX1 = some m.cls := findClass_of_methodNamed B.named
  have hlocks : meth.locks = false := B.notSynchronized
  have hT := hI.2.2
  have hK := hT.K
  have hG := hI.B
  have hf7 := hts (.fieldLink RX1 7 "DotGossip$Message" "from" "I") (by decide +kernel)
  have hf13 := hts (.fieldLink RX1 13 "DotGossip$Message" "to" "I") (by decide +kernel)
  have hf16 := hts (.fieldLink RX1 16 "DotGossip$Message" "sent" "LDotGossip$Holding;") (by decide +kernel)
  have hinX1 : ∀ w ∈ wsX10, w ∈ wsX1_init := by decide +kernel
  have hE : entryFrame m args 4 = entryFrame m ([.ref h, .int fr, .int to9, .ref g] : List Value).toArray 4 := by rw [hav]
  rw [hE]
  have hl := lv_entry ([.ref h, .int fr, .int to9, .ref g]) (n := 4) (Nat.le_of_ble_eq_true rfl)
  rw [lg_entry_eq]
  generalize (lg_sl ([.ref h, .int fr, .int to9, .ref g]) ++ List.replicate (4 - (lg_sl ([.ref h, .int fr, .int to9, .ref g])).length) Slot.unset).toArray = ls at hl ⊢
  have hl : lv_has ls 4 [(0, .ref h), (1, .int fr), (2, .int to9), (3, .ref g)] := hl
  have hini : meth.name = "<init>" := (name_of_methodNamed B.named B.method).1
  refine lv_aload_n hx hb dX1_init_0 rfl (lv_at hl 0 rfl) ?_
  refine W.objInit hx hb hown (hts (.methodLink RX1 1 objectInit) (by decide +kernel)) (hts (.instanceMethod objectInit) (by decide +kernel)) (hts (.code objectInit ⟨#[0xb1]⟩ 1 none) (by decide +kernel)) rfl (by rw [hml]; exact hl.1) rfl dX1_init_1 (Nat.le_of_ble_eq_true rfl) (Nat.le_of_ble_eq_true rfl) ?_
  refine W.eq (g2 := F0 m 4 ls []) rfl ?_
  refine lv_aload_n hx hb dX1_init_4 rfl (lv_at hl 0 rfl) ?_
  refine lv_iload_n hx hb dX1_init_5 rfl (lv_at hl 1 rfl) ?_
  refine gw_putF (ci := 2) (v := .int fr) (ty := .int) (C := RX1) (T := TX1) (N := 3) hx hb hts hinX1 tyX1 tyX1_ok nmX1 hown hK hG hh rfl 0 (by decide) hf7 (fun _ h9 => h9) rfl hini rfl (by decide +kernel) rfl rfl (Nat.le_of_ble_eq_true rfl) dX1_init_6 (fun H locs hG => ?_)
  obtain ⟨M_133, hM_134⟩ : ∃ M1 : gw_M, M1 = gw_up M h (.inr (2, [.int fr, .int 0, .null])) := ⟨_, rfl⟩
  have hG : gw_B K M_133 s.heap H locs := by rw [hM_134]; exact hG
  have hc_135 : M_133 h = some (.inr (2, [.int fr, .int 0, .null])) := (congrFun hM_134 _).trans gw_s
  refine lv_aload_n hx hb dX1_init_9 rfl (lv_at hl 0 rfl) ?_
  refine lv_iload_n hx hb dX1_init_10 rfl (lv_at hl 2 rfl) ?_
  refine gw_put (ci := 2) (v := .int to9) (ty := .int) (C := RX1) (T := TX1) (N := 3) hx hb hts hinX1 tyX1 tyX1_ok nmX1 hown hK hG hc_135 rfl 1 (by decide) hf13 (fun _ h9 => h9) rfl (by decide +kernel) rfl rfl (Nat.le_of_ble_eq_true rfl) dX1_init_11 (fun H locs hG => ?_)
  obtain ⟨M_136, hM_137⟩ : ∃ M1 : gw_M, M1 = gw_up M_133 h (.inr (2, [.int fr, .int to9, .null])) := ⟨_, rfl⟩
  have hG : gw_B K M_136 s.heap H locs := by rw [hM_137]; exact hG
  have hc_138 : M_136 h = some (.inr (2, [.int fr, .int to9, .null])) := (congrFun hM_137 _).trans gw_s
  refine lv_aload_n hx hb dX1_init_14 rfl (lv_at hl 0 rfl) ?_
  refine lv_aload_n hx hb dX1_init_15 rfl (lv_at hl 3 rfl) ?_
  refine gw_putF (ci := 2) (v := .ref g) (ty := .object "DotGossip$Holding") (C := RX1) (T := TX1) (N := 3) hx hb hts hinX1 tyX1 tyX1_ok nmX1 hown hK hG hc_138 rfl 2 (by decide) hf16 (fun _ h9 => h9) rfl hini rfl (by decide +kernel) rfl rfl (Nat.le_of_ble_eq_true rfl) dX1_init_16 (fun H locs hG => ?_)
  obtain ⟨M_139, hM_140⟩ : ∃ M1 : gw_M, M1 = gw_up M_136 h (.inr (2, [.int fr, .int to9, .ref g])) := ⟨_, rfl⟩
  have hG : gw_B K M_139 s.heap H locs := by rw [hM_140]; exact hG
  have hc_141 : M_139 h = some (.inr (2, [.int fr, .int to9, .ref g])) := (congrFun hM_140 _).trans gw_s
  exact gw_vret hx hb hr hlocks hG hT (by omega) (by omega) dX1_init_19 (by rw [hM_140, hM_137, hM_134, gw_uu, gw_uu])

set_option maxHeartbeats 4000000 in
set_option maxRecDepth 100000 in
/-- snapshot -/
theorem c_snapshot (l : Launch) (K : gw_C) (M : gw_M) (h : Nat) (ad : Nat → Nat) (V : hV) (hh : hd K M h ad V) : Met l yX0_snapshot wsX0_snapshot ({ frames := 2, cells := 6, slots := 491, locals := 32 } : Room) (va_Pc [.ref h] (gw_I K M)) (va_Qq (fun r M1 => ∃ (g : Nat) (ad2 : Nat → Nat), r = some g ∧ hd K M1 g ad2 (va_cpy V.1 (fun _ => 0) 0 0 6, va_cpy V.2.1 (fun _ => 0) 0 0 408, va_cpy V.2.2.1 (fun _ => 0) 0 0 24, va_cpy V.2.2.2.1 (fun _ => 0) 0 0 24, va_cpy V.2.2.2.2 (fun _ => 0) 0 0 24) ∧ M g = none ∧ (∀ i, i < 5 → M (ad2 i) = none) ∧ ∀ q e, M q = some e → M1 q = some e) (gw_I K) (gw_A K)) 6 491 (gw_A K) := by
  refine Met.ofW (cc := cX0_snapshot) (maxL := 2) (ret := (some (.object "DotGossip$Holding"))) (by decide) rfl ?_
  intro p e s m args below meth c s₁ B hml hv
  obtain ⟨hav, hI⟩ := hv
  have hx := B.exec
  have hb := B.bytes
  have hr := B.returns
  have hts := atoms_spec (ws := wsX0_snapshot) B.pre
  have hown : s.vm.findClass RX0 = some m.cls := findClass_of_methodNamed B.named
  have hlocks : meth.locks = false := B.notSynchronized
  have hT := hI.2.2
  have hK := hT.K
  have hG := hI.B
  have hf9 := hts (.fieldLink RX0 9 "DotGossip$Holding" "seen" "[I") (by decide +kernel)
  have hf15 := hts (.fieldLink RX0 15 "DotGossip$Holding" "numbers" "[I") (by decide +kernel)
  have hf18 := hts (.fieldLink RX0 18 "DotGossip$Holding" "written" "[I") (by decide +kernel)
  have hf21 := hts (.fieldLink RX0 21 "DotGossip$Holding" "added" "[J") (by decide +kernel)
  have hf25 := hts (.fieldLink RX0 25 "DotGossip$Holding" "taken" "[J") (by decide +kernel)
  have hinX0 : ∀ w ∈ wsX00, w ∈ wsX0_snapshot := by decide +kernel
  have hE : entryFrame m args 2 = entryFrame m ([.ref h] : List Value).toArray 2 := by rw [hav]
  rw [hE]
  have hl := lv_entry ([.ref h]) (n := 2) (Nat.le_of_ble_eq_true rfl)
  rw [lg_entry_eq]
  generalize (lg_sl ([.ref h]) ++ List.replicate (2 - (lg_sl ([.ref h])).length) Slot.unset).toArray = ls at hl ⊢
  have hl : lv_has ls 2 [(0, .ref h)] := hl
  obtain ⟨h_0, h_s, h_n, h_w, h_a, h_t, h_ne⟩ := id hh
  refine gw_new (ci := 1) (fs := [.null, .null, .null, .null, .null]) (C := RX0) (T := TX0) (N := 5) hx hb hts hinX0 tyX0 tyX0_ok hown (hts (.classLink RX0 10 RX0) (by decide +kernel)) (hts (.instantiable RX0 5) (by decide +kernel)) (hts (.initialized RX0) (by decide +kernel)) hK hG rfl (fun j hj => by rcases (show j = 0 ∨ j = 1 ∨ j = 2 ∨ j = 3 ∨ j = 4 by omega) with rfl | rfl | rfl | rfl | rfl <;> rfl) (Nat.le_of_ble_eq_true rfl) (Nat.le_of_ble_eq_true rfl) dX0_snapshot_0 (fun g H hgn hG => ?_)
  obtain ⟨M_142, hM_143⟩ : ∃ M1 : gw_M, M1 = gw_up M g (.inr (1, [.null, .null, .null, .null, .null])) := ⟨_, rfl⟩
  have hG : gw_B K M_142 s.heap H [] := by rw [hM_143]; exact hG
  have hne_145 : h ≠ g := gw_ne hgn h_0
  have hc_144 := (congrFun hM_143 h).trans (gw_k hne_145 h_0)
  have hne_147 : ad 0 ≠ g := gw_ne hgn h_s
  have hc_146 := (congrFun hM_143 (ad 0)).trans (gw_k hne_147 h_s)
  have hne_149 : ad 1 ≠ g := gw_ne hgn h_n
  have hc_148 := (congrFun hM_143 (ad 1)).trans (gw_k hne_149 h_n)
  have hne_151 : ad 2 ≠ g := gw_ne hgn h_w
  have hc_150 := (congrFun hM_143 (ad 2)).trans (gw_k hne_151 h_w)
  have hne_153 : ad 3 ≠ g := gw_ne hgn h_a
  have hc_152 := (congrFun hM_143 (ad 3)).trans (gw_k hne_153 h_a)
  have hne_155 : ad 4 ≠ g := gw_ne hgn h_t
  have hc_154 := (congrFun hM_143 (ad 4)).trans (gw_k hne_155 h_t)
  have hc_156 : M_142 g = some (.inr (1, [.null, .null, .null, .null, .null])) := (congrFun hM_143 _).trans gw_s
  refine lv_dup hx hb dX0_snapshot_3 rfl ?_
  refine gw_callv (va_runI (As := []) (rest := [.ref g]) ⟨hx, hb, hml, hown, hts⟩ (c_hinit l K M_142 g hc_156) (cwI 0 hts gX0_snapshot_X0_init rfl rfl rfl (hts (.initialized RX0) (by decide +kernel)) (hts (.methodLink RX0 37 yX0_init) (by decide +kernel)) (hts (.instanceMethod yX0_init) (by decide +kernel)) rfl (by decide +kernel) ⟨Nat.le_of_ble_eq_true rfl, Nat.le_of_ble_eq_true rfl⟩) (gw_preS hG hT) rfl rfl hl.1 rfl (lv_room (Nat.le_of_ble_eq_true rfl)) dX0_snapshot_4 ⟨Nat.le_of_ble_eq_true rfl, Nat.le_of_ble_eq_true rfl⟩) hG (fun M_158 H locs hw hG => ?_)
  obtain ⟨ad2, hd2, hk2, hf2⟩ := hw
  have hc_159 := hk2 h _ hne_145 hc_144
  have hc_160 := hk2 (ad 0) _ hne_147 hc_146
  have hc_161 := hk2 (ad 1) _ hne_149 hc_148
  have hc_162 := hk2 (ad 2) _ hne_151 hc_150
  have hc_163 := hk2 (ad 3) _ hne_153 hc_152
  have hc_164 := hk2 (ad 4) _ hne_155 hc_154
  obtain ⟨y_0, y_s, y_n, y_w, y_a, y_t, y_ne⟩ := id hd2
  have hne_165 : h ≠ ad2 0 := gw_ne (M := M_142) (hf2 0 (by decide)) ((congrFun hM_143 h).trans (gw_o hgn h_0))
  have hne_166 : ad 0 ≠ ad2 0 := gw_ne (M := M_142) (hf2 0 (by decide)) ((congrFun hM_143 (ad 0)).trans (gw_o hgn h_s))
  have hne_167 : ad 1 ≠ ad2 0 := gw_ne (M := M_142) (hf2 0 (by decide)) ((congrFun hM_143 (ad 1)).trans (gw_o hgn h_n))
  have hne_168 : ad 2 ≠ ad2 0 := gw_ne (M := M_142) (hf2 0 (by decide)) ((congrFun hM_143 (ad 2)).trans (gw_o hgn h_w))
  have hne_169 : ad 3 ≠ ad2 0 := gw_ne (M := M_142) (hf2 0 (by decide)) ((congrFun hM_143 (ad 3)).trans (gw_o hgn h_a))
  have hne_170 : ad 4 ≠ ad2 0 := gw_ne (M := M_142) (hf2 0 (by decide)) ((congrFun hM_143 (ad 4)).trans (gw_o hgn h_t))
  have hne_171 : h ≠ ad2 1 := gw_ne (M := M_142) (hf2 1 (by decide)) ((congrFun hM_143 h).trans (gw_o hgn h_0))
  have hne_172 : ad 0 ≠ ad2 1 := gw_ne (M := M_142) (hf2 1 (by decide)) ((congrFun hM_143 (ad 0)).trans (gw_o hgn h_s))
  have hne_173 : ad 1 ≠ ad2 1 := gw_ne (M := M_142) (hf2 1 (by decide)) ((congrFun hM_143 (ad 1)).trans (gw_o hgn h_n))
  have hne_174 : ad 2 ≠ ad2 1 := gw_ne (M := M_142) (hf2 1 (by decide)) ((congrFun hM_143 (ad 2)).trans (gw_o hgn h_w))
  have hne_175 : ad 3 ≠ ad2 1 := gw_ne (M := M_142) (hf2 1 (by decide)) ((congrFun hM_143 (ad 3)).trans (gw_o hgn h_a))
  have hne_176 : ad 4 ≠ ad2 1 := gw_ne (M := M_142) (hf2 1 (by decide)) ((congrFun hM_143 (ad 4)).trans (gw_o hgn h_t))
  have hne_177 : h ≠ ad2 2 := gw_ne (M := M_142) (hf2 2 (by decide)) ((congrFun hM_143 h).trans (gw_o hgn h_0))
  have hne_178 : ad 0 ≠ ad2 2 := gw_ne (M := M_142) (hf2 2 (by decide)) ((congrFun hM_143 (ad 0)).trans (gw_o hgn h_s))
  have hne_179 : ad 1 ≠ ad2 2 := gw_ne (M := M_142) (hf2 2 (by decide)) ((congrFun hM_143 (ad 1)).trans (gw_o hgn h_n))
  have hne_180 : ad 2 ≠ ad2 2 := gw_ne (M := M_142) (hf2 2 (by decide)) ((congrFun hM_143 (ad 2)).trans (gw_o hgn h_w))
  have hne_181 : ad 3 ≠ ad2 2 := gw_ne (M := M_142) (hf2 2 (by decide)) ((congrFun hM_143 (ad 3)).trans (gw_o hgn h_a))
  have hne_182 : ad 4 ≠ ad2 2 := gw_ne (M := M_142) (hf2 2 (by decide)) ((congrFun hM_143 (ad 4)).trans (gw_o hgn h_t))
  have hne_183 : h ≠ ad2 3 := gw_ne (M := M_142) (hf2 3 (by decide)) ((congrFun hM_143 h).trans (gw_o hgn h_0))
  have hne_184 : ad 0 ≠ ad2 3 := gw_ne (M := M_142) (hf2 3 (by decide)) ((congrFun hM_143 (ad 0)).trans (gw_o hgn h_s))
  have hne_185 : ad 1 ≠ ad2 3 := gw_ne (M := M_142) (hf2 3 (by decide)) ((congrFun hM_143 (ad 1)).trans (gw_o hgn h_n))
  have hne_186 : ad 2 ≠ ad2 3 := gw_ne (M := M_142) (hf2 3 (by decide)) ((congrFun hM_143 (ad 2)).trans (gw_o hgn h_w))
  have hne_187 : ad 3 ≠ ad2 3 := gw_ne (M := M_142) (hf2 3 (by decide)) ((congrFun hM_143 (ad 3)).trans (gw_o hgn h_a))
  have hne_188 : ad 4 ≠ ad2 3 := gw_ne (M := M_142) (hf2 3 (by decide)) ((congrFun hM_143 (ad 4)).trans (gw_o hgn h_t))
  have hne_189 : h ≠ ad2 4 := gw_ne (M := M_142) (hf2 4 (by decide)) ((congrFun hM_143 h).trans (gw_o hgn h_0))
  have hne_190 : ad 0 ≠ ad2 4 := gw_ne (M := M_142) (hf2 4 (by decide)) ((congrFun hM_143 (ad 0)).trans (gw_o hgn h_s))
  have hne_191 : ad 1 ≠ ad2 4 := gw_ne (M := M_142) (hf2 4 (by decide)) ((congrFun hM_143 (ad 1)).trans (gw_o hgn h_n))
  have hne_192 : ad 2 ≠ ad2 4 := gw_ne (M := M_142) (hf2 4 (by decide)) ((congrFun hM_143 (ad 2)).trans (gw_o hgn h_w))
  have hne_193 : ad 3 ≠ ad2 4 := gw_ne (M := M_142) (hf2 4 (by decide)) ((congrFun hM_143 (ad 3)).trans (gw_o hgn h_a))
  have hne_194 : ad 4 ≠ ad2 4 := gw_ne (M := M_142) (hf2 4 (by decide)) ((congrFun hM_143 (ad 4)).trans (gw_o hgn h_t))
  have hne_195 : g ≠ ad2 0 := (gw_io y_0 y_s)
  have hne_196 : g ≠ ad2 1 := (gw_io y_0 y_n)
  have hne_197 : g ≠ ad2 2 := (gw_io y_0 y_w)
  have hne_198 : g ≠ ad2 3 := (gw_io y_0 y_a)
  have hne_199 : g ≠ ad2 4 := (gw_io y_0 y_t)
  have hne_200 : ad2 0 ≠ ad2 1 := (fun z => absurd (y_ne 0 1 (by decide) (by decide) z) (by decide))
  have hne_201 : ad2 0 ≠ ad2 2 := (fun z => absurd (y_ne 0 2 (by decide) (by decide) z) (by decide))
  have hne_202 : ad2 0 ≠ ad2 3 := (fun z => absurd (y_ne 0 3 (by decide) (by decide) z) (by decide))
  have hne_203 : ad2 0 ≠ ad2 4 := (fun z => absurd (y_ne 0 4 (by decide) (by decide) z) (by decide))
  have hne_204 : ad2 1 ≠ ad2 0 := (fun z => absurd (y_ne 1 0 (by decide) (by decide) z) (by decide))
  have hne_205 : ad2 1 ≠ ad2 2 := (fun z => absurd (y_ne 1 2 (by decide) (by decide) z) (by decide))
  have hne_206 : ad2 1 ≠ ad2 3 := (fun z => absurd (y_ne 1 3 (by decide) (by decide) z) (by decide))
  have hne_207 : ad2 1 ≠ ad2 4 := (fun z => absurd (y_ne 1 4 (by decide) (by decide) z) (by decide))
  have hne_208 : ad2 2 ≠ ad2 0 := (fun z => absurd (y_ne 2 0 (by decide) (by decide) z) (by decide))
  have hne_209 : ad2 2 ≠ ad2 1 := (fun z => absurd (y_ne 2 1 (by decide) (by decide) z) (by decide))
  have hne_210 : ad2 2 ≠ ad2 3 := (fun z => absurd (y_ne 2 3 (by decide) (by decide) z) (by decide))
  have hne_211 : ad2 2 ≠ ad2 4 := (fun z => absurd (y_ne 2 4 (by decide) (by decide) z) (by decide))
  have hne_212 : ad2 3 ≠ ad2 0 := (fun z => absurd (y_ne 3 0 (by decide) (by decide) z) (by decide))
  have hne_213 : ad2 3 ≠ ad2 1 := (fun z => absurd (y_ne 3 1 (by decide) (by decide) z) (by decide))
  have hne_214 : ad2 3 ≠ ad2 2 := (fun z => absurd (y_ne 3 2 (by decide) (by decide) z) (by decide))
  have hne_215 : ad2 3 ≠ ad2 4 := (fun z => absurd (y_ne 3 4 (by decide) (by decide) z) (by decide))
  have hne_216 : ad2 4 ≠ ad2 0 := (fun z => absurd (y_ne 4 0 (by decide) (by decide) z) (by decide))
  have hne_217 : ad2 4 ≠ ad2 1 := (fun z => absurd (y_ne 4 1 (by decide) (by decide) z) (by decide))
  have hne_218 : ad2 4 ≠ ad2 2 := (fun z => absurd (y_ne 4 2 (by decide) (by decide) z) (by decide))
  have hne_219 : ad2 4 ≠ ad2 3 := (fun z => absurd (y_ne 4 3 (by decide) (by decide) z) (by decide))
  refine lv_astore_n (lv' := [(1, .ref g), (0, .ref h)]) hx hb dX0_snapshot_7 rfl hl (by decide) rfl (fun ls hl => ?_)
  refine lv_aload_n hx hb dX0_snapshot_8 rfl (lv_at hl 1 rfl) ?_
  refine gw_get (ci := 1) (C := RX0) (T := TX0) (N := 5) hx hb hts hinX0 hown hK hG hc_159 rfl 0 (by decide) hf9 (fun _ h9 => h9) rfl dX0_snapshot_9 ?_
  refine lv_iconst (v := nI 0) hx hb dX0_snapshot_12 (by decide) ?_
  refine lv_aload_n hx hb dX0_snapshot_13 rfl (lv_at hl 0 rfl) ?_
  refine gw_get (ci := 1) (C := RX0) (T := TX0) (N := 5) hx hb hts hinX0 hown hK hG y_0 rfl 0 (by decide) hf9 (fun _ h9 => h9) rfl dX0_snapshot_14 ?_
  refine lv_iconst (v := nI 0) hx hb dX0_snapshot_17 (by decide) ?_
  refine lv_aload_n hx hb dX0_snapshot_18 rfl (lv_at hl 1 rfl) ?_
  refine gw_get (ci := 1) (C := RX0) (T := TX0) (N := 5) hx hb hts hinX0 hown hK hG hc_159 rfl 0 (by decide) hf9 (fun _ h9 => h9) rfl dX0_snapshot_19 ?_
  refine gw_alen hx hb hK hG hc_160 0 rfl (v := nI 6) rfl dX0_snapshot_22 ?_
  refine gw_copyi (nn := 6) hx hb (hml.trans hl.1.symm) hown (hts (.methodLink RX0 38 arraycopyName) (by decide +kernel)) (hts (.native arraycopyName) (by decide +kernel)) (hts (.static arraycopyName) (by decide +kernel)) (hts (.initialized "java/lang/System") (by decide +kernel)) hK hG hc_160 y_s 0 rfl (by decide) (by decide) (by decide) (Nat.le_of_ble_eq_true rfl) (Nat.le_of_ble_eq_true rfl) dX0_snapshot_23 (fun H locs hG => ?_)
  obtain ⟨M_220, hM_221⟩ : ∃ M1 : gw_M, M1 = gw_up M_158 (ad2 0) (.inl (K.2.1 0, 6, .inl (va_cpy V.1 (fun _ => 0) 0 0 6))) := ⟨_, rfl⟩
  have hG : gw_B K M_220 s.heap H locs := by rw [hM_221]; exact hG
  have hc_222 := (congrFun hM_221 h).trans (gw_k hne_165 hc_159)
  have hc_223 := (congrFun hM_221 (ad 0)).trans (gw_k hne_166 hc_160)
  have hc_224 := (congrFun hM_221 (ad 1)).trans (gw_k hne_167 hc_161)
  have hc_225 := (congrFun hM_221 (ad 2)).trans (gw_k hne_168 hc_162)
  have hc_226 := (congrFun hM_221 (ad 3)).trans (gw_k hne_169 hc_163)
  have hc_227 := (congrFun hM_221 (ad 4)).trans (gw_k hne_170 hc_164)
  have hc_228 := (congrFun hM_221 g).trans (gw_k hne_195 y_0)
  have hc_229 : M_220 (ad2 0) = some (.inl (K.2.1 0, 6, .inl (va_cpy V.1 (fun _ => 0) 0 0 6))) := (congrFun hM_221 _).trans gw_s
  have hc_230 := (congrFun hM_221 (ad2 1)).trans (gw_k hne_204 y_n)
  have hc_231 := (congrFun hM_221 (ad2 2)).trans (gw_k hne_208 y_w)
  have hc_232 := (congrFun hM_221 (ad2 3)).trans (gw_k hne_212 y_a)
  have hc_233 := (congrFun hM_221 (ad2 4)).trans (gw_k hne_216 y_t)
  refine lv_aload_n hx hb dX0_snapshot_26 rfl (lv_at hl 1 rfl) ?_
  refine gw_get (ci := 1) (C := RX0) (T := TX0) (N := 5) hx hb hts hinX0 hown hK hG hc_222 rfl 1 (by decide) hf15 (fun _ h9 => h9) rfl dX0_snapshot_27 ?_
  refine lv_iconst (v := nI 0) hx hb dX0_snapshot_30 (by decide) ?_
  refine lv_aload_n hx hb dX0_snapshot_31 rfl (lv_at hl 0 rfl) ?_
  refine gw_get (ci := 1) (C := RX0) (T := TX0) (N := 5) hx hb hts hinX0 hown hK hG hc_228 rfl 1 (by decide) hf15 (fun _ h9 => h9) rfl dX0_snapshot_32 ?_
  refine lv_iconst (v := nI 0) hx hb dX0_snapshot_35 (by decide) ?_
  refine lv_aload_n hx hb dX0_snapshot_36 rfl (lv_at hl 1 rfl) ?_
  refine gw_get (ci := 1) (C := RX0) (T := TX0) (N := 5) hx hb hts hinX0 hown hK hG hc_222 rfl 1 (by decide) hf15 (fun _ h9 => h9) rfl dX0_snapshot_37 ?_
  refine gw_alen hx hb hK hG hc_224 0 rfl (v := nI 408) rfl dX0_snapshot_40 ?_
  refine gw_copyi (nn := 408) hx hb (hml.trans hl.1.symm) hown (hts (.methodLink RX0 38 arraycopyName) (by decide +kernel)) (hts (.native arraycopyName) (by decide +kernel)) (hts (.static arraycopyName) (by decide +kernel)) (hts (.initialized "java/lang/System") (by decide +kernel)) hK hG hc_224 hc_230 0 rfl (by decide) (by decide) (by decide) (Nat.le_of_ble_eq_true rfl) (Nat.le_of_ble_eq_true rfl) dX0_snapshot_41 (fun H locs hG => ?_)
  obtain ⟨M_234, hM_235⟩ : ∃ M1 : gw_M, M1 = gw_up M_220 (ad2 1) (.inl (K.2.1 0, 408, .inl (va_cpy V.2.1 (fun _ => 0) 0 0 408))) := ⟨_, rfl⟩
  have hG : gw_B K M_234 s.heap H locs := by rw [hM_235]; exact hG
  have hc_236 := (congrFun hM_235 h).trans (gw_k hne_171 hc_222)
  have hc_237 := (congrFun hM_235 (ad 0)).trans (gw_k hne_172 hc_223)
  have hc_238 := (congrFun hM_235 (ad 1)).trans (gw_k hne_173 hc_224)
  have hc_239 := (congrFun hM_235 (ad 2)).trans (gw_k hne_174 hc_225)
  have hc_240 := (congrFun hM_235 (ad 3)).trans (gw_k hne_175 hc_226)
  have hc_241 := (congrFun hM_235 (ad 4)).trans (gw_k hne_176 hc_227)
  have hc_242 := (congrFun hM_235 g).trans (gw_k hne_196 hc_228)
  have hc_243 := (congrFun hM_235 (ad2 0)).trans (gw_k hne_200 hc_229)
  have hc_244 : M_234 (ad2 1) = some (.inl (K.2.1 0, 408, .inl (va_cpy V.2.1 (fun _ => 0) 0 0 408))) := (congrFun hM_235 _).trans gw_s
  have hc_245 := (congrFun hM_235 (ad2 2)).trans (gw_k hne_209 hc_231)
  have hc_246 := (congrFun hM_235 (ad2 3)).trans (gw_k hne_213 hc_232)
  have hc_247 := (congrFun hM_235 (ad2 4)).trans (gw_k hne_217 hc_233)
  refine lv_aload_n hx hb dX0_snapshot_44 rfl (lv_at hl 1 rfl) ?_
  refine gw_get (ci := 1) (C := RX0) (T := TX0) (N := 5) hx hb hts hinX0 hown hK hG hc_236 rfl 2 (by decide) hf18 (fun _ h9 => h9) rfl dX0_snapshot_45 ?_
  refine lv_iconst (v := nI 0) hx hb dX0_snapshot_48 (by decide) ?_
  refine lv_aload_n hx hb dX0_snapshot_49 rfl (lv_at hl 0 rfl) ?_
  refine gw_get (ci := 1) (C := RX0) (T := TX0) (N := 5) hx hb hts hinX0 hown hK hG hc_242 rfl 2 (by decide) hf18 (fun _ h9 => h9) rfl dX0_snapshot_50 ?_
  refine lv_iconst (v := nI 0) hx hb dX0_snapshot_53 (by decide) ?_
  refine lv_aload_n hx hb dX0_snapshot_54 rfl (lv_at hl 1 rfl) ?_
  refine gw_get (ci := 1) (C := RX0) (T := TX0) (N := 5) hx hb hts hinX0 hown hK hG hc_236 rfl 2 (by decide) hf18 (fun _ h9 => h9) rfl dX0_snapshot_55 ?_
  refine gw_alen hx hb hK hG hc_239 0 rfl (v := nI 24) rfl dX0_snapshot_58 ?_
  refine gw_copyi (nn := 24) hx hb (hml.trans hl.1.symm) hown (hts (.methodLink RX0 38 arraycopyName) (by decide +kernel)) (hts (.native arraycopyName) (by decide +kernel)) (hts (.static arraycopyName) (by decide +kernel)) (hts (.initialized "java/lang/System") (by decide +kernel)) hK hG hc_239 hc_245 0 rfl (by decide) (by decide) (by decide) (Nat.le_of_ble_eq_true rfl) (Nat.le_of_ble_eq_true rfl) dX0_snapshot_59 (fun H locs hG => ?_)
  obtain ⟨M_248, hM_249⟩ : ∃ M1 : gw_M, M1 = gw_up M_234 (ad2 2) (.inl (K.2.1 0, 24, .inl (va_cpy V.2.2.1 (fun _ => 0) 0 0 24))) := ⟨_, rfl⟩
  have hG : gw_B K M_248 s.heap H locs := by rw [hM_249]; exact hG
  have hc_250 := (congrFun hM_249 h).trans (gw_k hne_177 hc_236)
  have hc_251 := (congrFun hM_249 (ad 0)).trans (gw_k hne_178 hc_237)
  have hc_252 := (congrFun hM_249 (ad 1)).trans (gw_k hne_179 hc_238)
  have hc_253 := (congrFun hM_249 (ad 2)).trans (gw_k hne_180 hc_239)
  have hc_254 := (congrFun hM_249 (ad 3)).trans (gw_k hne_181 hc_240)
  have hc_255 := (congrFun hM_249 (ad 4)).trans (gw_k hne_182 hc_241)
  have hc_256 := (congrFun hM_249 g).trans (gw_k hne_197 hc_242)
  have hc_257 := (congrFun hM_249 (ad2 0)).trans (gw_k hne_201 hc_243)
  have hc_258 := (congrFun hM_249 (ad2 1)).trans (gw_k hne_205 hc_244)
  have hc_259 : M_248 (ad2 2) = some (.inl (K.2.1 0, 24, .inl (va_cpy V.2.2.1 (fun _ => 0) 0 0 24))) := (congrFun hM_249 _).trans gw_s
  have hc_260 := (congrFun hM_249 (ad2 3)).trans (gw_k hne_214 hc_246)
  have hc_261 := (congrFun hM_249 (ad2 4)).trans (gw_k hne_218 hc_247)
  refine lv_aload_n hx hb dX0_snapshot_62 rfl (lv_at hl 1 rfl) ?_
  refine gw_get (ci := 1) (C := RX0) (T := TX0) (N := 5) hx hb hts hinX0 hown hK hG hc_250 rfl 3 (by decide) hf21 (fun _ h9 => h9) rfl dX0_snapshot_63 ?_
  refine lv_iconst (v := nI 0) hx hb dX0_snapshot_66 (by decide) ?_
  refine lv_aload_n hx hb dX0_snapshot_67 rfl (lv_at hl 0 rfl) ?_
  refine gw_get (ci := 1) (C := RX0) (T := TX0) (N := 5) hx hb hts hinX0 hown hK hG hc_256 rfl 3 (by decide) hf21 (fun _ h9 => h9) rfl dX0_snapshot_68 ?_
  refine lv_iconst (v := nI 0) hx hb dX0_snapshot_71 (by decide) ?_
  refine lv_aload_n hx hb dX0_snapshot_72 rfl (lv_at hl 1 rfl) ?_
  refine gw_get (ci := 1) (C := RX0) (T := TX0) (N := 5) hx hb hts hinX0 hown hK hG hc_250 rfl 3 (by decide) hf21 (fun _ h9 => h9) rfl dX0_snapshot_73 ?_
  refine gw_alen hx hb hK hG hc_254 1 rfl (v := nI 24) rfl dX0_snapshot_76 ?_
  refine gw_copyl (nn := 24) hx hb (hml.trans hl.1.symm) hown (hts (.methodLink RX0 38 arraycopyName) (by decide +kernel)) (hts (.native arraycopyName) (by decide +kernel)) (hts (.static arraycopyName) (by decide +kernel)) (hts (.initialized "java/lang/System") (by decide +kernel)) hK hG hc_254 hc_260 1 rfl (by decide) (by decide) (by decide) (Nat.le_of_ble_eq_true rfl) (Nat.le_of_ble_eq_true rfl) dX0_snapshot_77 (fun H locs hG => ?_)
  obtain ⟨M_262, hM_263⟩ : ∃ M1 : gw_M, M1 = gw_up M_248 (ad2 3) (.inl (K.2.1 1, 24, .inr (.inl (va_cpy V.2.2.2.1 (fun _ => 0) 0 0 24)))) := ⟨_, rfl⟩
  have hG : gw_B K M_262 s.heap H locs := by rw [hM_263]; exact hG
  have hc_264 := (congrFun hM_263 h).trans (gw_k hne_183 hc_250)
  have hc_265 := (congrFun hM_263 (ad 0)).trans (gw_k hne_184 hc_251)
  have hc_266 := (congrFun hM_263 (ad 1)).trans (gw_k hne_185 hc_252)
  have hc_267 := (congrFun hM_263 (ad 2)).trans (gw_k hne_186 hc_253)
  have hc_268 := (congrFun hM_263 (ad 3)).trans (gw_k hne_187 hc_254)
  have hc_269 := (congrFun hM_263 (ad 4)).trans (gw_k hne_188 hc_255)
  have hc_270 := (congrFun hM_263 g).trans (gw_k hne_198 hc_256)
  have hc_271 := (congrFun hM_263 (ad2 0)).trans (gw_k hne_202 hc_257)
  have hc_272 := (congrFun hM_263 (ad2 1)).trans (gw_k hne_206 hc_258)
  have hc_273 := (congrFun hM_263 (ad2 2)).trans (gw_k hne_210 hc_259)
  have hc_274 : M_262 (ad2 3) = some (.inl (K.2.1 1, 24, .inr (.inl (va_cpy V.2.2.2.1 (fun _ => 0) 0 0 24)))) := (congrFun hM_263 _).trans gw_s
  have hc_275 := (congrFun hM_263 (ad2 4)).trans (gw_k hne_219 hc_261)
  refine lv_aload_n hx hb dX0_snapshot_80 rfl (lv_at hl 1 rfl) ?_
  refine gw_get (ci := 1) (C := RX0) (T := TX0) (N := 5) hx hb hts hinX0 hown hK hG hc_264 rfl 4 (by decide) hf25 (fun _ h9 => h9) rfl dX0_snapshot_81 ?_
  refine lv_iconst (v := nI 0) hx hb dX0_snapshot_84 (by decide) ?_
  refine lv_aload_n hx hb dX0_snapshot_85 rfl (lv_at hl 0 rfl) ?_
  refine gw_get (ci := 1) (C := RX0) (T := TX0) (N := 5) hx hb hts hinX0 hown hK hG hc_270 rfl 4 (by decide) hf25 (fun _ h9 => h9) rfl dX0_snapshot_86 ?_
  refine lv_iconst (v := nI 0) hx hb dX0_snapshot_89 (by decide) ?_
  refine lv_aload_n hx hb dX0_snapshot_90 rfl (lv_at hl 1 rfl) ?_
  refine gw_get (ci := 1) (C := RX0) (T := TX0) (N := 5) hx hb hts hinX0 hown hK hG hc_264 rfl 4 (by decide) hf25 (fun _ h9 => h9) rfl dX0_snapshot_91 ?_
  refine gw_alen hx hb hK hG hc_269 1 rfl (v := nI 24) rfl dX0_snapshot_94 ?_
  refine gw_copyl (nn := 24) hx hb (hml.trans hl.1.symm) hown (hts (.methodLink RX0 38 arraycopyName) (by decide +kernel)) (hts (.native arraycopyName) (by decide +kernel)) (hts (.static arraycopyName) (by decide +kernel)) (hts (.initialized "java/lang/System") (by decide +kernel)) hK hG hc_269 hc_275 1 rfl (by decide) (by decide) (by decide) (Nat.le_of_ble_eq_true rfl) (Nat.le_of_ble_eq_true rfl) dX0_snapshot_95 (fun H locs hG => ?_)
  obtain ⟨M_276, hM_277⟩ : ∃ M1 : gw_M, M1 = gw_up M_262 (ad2 4) (.inl (K.2.1 1, 24, .inr (.inl (va_cpy V.2.2.2.2 (fun _ => 0) 0 0 24)))) := ⟨_, rfl⟩
  have hG : gw_B K M_276 s.heap H locs := by rw [hM_277]; exact hG
  have hc_278 := (congrFun hM_277 h).trans (gw_k hne_189 hc_264)
  have hc_279 := (congrFun hM_277 (ad 0)).trans (gw_k hne_190 hc_265)
  have hc_280 := (congrFun hM_277 (ad 1)).trans (gw_k hne_191 hc_266)
  have hc_281 := (congrFun hM_277 (ad 2)).trans (gw_k hne_192 hc_267)
  have hc_282 := (congrFun hM_277 (ad 3)).trans (gw_k hne_193 hc_268)
  have hc_283 := (congrFun hM_277 (ad 4)).trans (gw_k hne_194 hc_269)
  have hc_284 := (congrFun hM_277 g).trans (gw_k hne_199 hc_270)
  have hc_285 := (congrFun hM_277 (ad2 0)).trans (gw_k hne_203 hc_271)
  have hc_286 := (congrFun hM_277 (ad2 1)).trans (gw_k hne_207 hc_272)
  have hc_287 := (congrFun hM_277 (ad2 2)).trans (gw_k hne_211 hc_273)
  have hc_288 := (congrFun hM_277 (ad2 3)).trans (gw_k hne_215 hc_274)
  have hc_289 : M_276 (ad2 4) = some (.inl (K.2.1 1, 24, .inr (.inl (va_cpy V.2.2.2.2 (fun _ => 0) 0 0 24)))) := (congrFun hM_277 _).trans gw_s
  refine lv_aload_n hx hb dX0_snapshot_98 rfl (lv_at hl 0 rfl) ?_
  have hfin : ∀ q e, M q = some e → M_276 q = some e := by
    intro q e9 he
    have hqg : q ≠ g := gw_ne hgn he
    have h1 := (congrFun hM_143 q).trans (gw_o hgn he)
    have h2 := hk2 q _ hqg h1
    have h2 := (congrFun hM_221 q).trans (gw_k (gw_ne (hf2 0 (by decide)) h1) h2)
    have h2 := (congrFun hM_235 q).trans (gw_k (gw_ne (hf2 1 (by decide)) h1) h2)
    have h2 := (congrFun hM_249 q).trans (gw_k (gw_ne (hf2 2 (by decide)) h1) h2)
    have h2 := (congrFun hM_263 q).trans (gw_k (gw_ne (hf2 3 (by decide)) h1) h2)
    have h2 := (congrFun hM_277 q).trans (gw_k (gw_ne (hf2 4 (by decide)) h1) h2)
    exact h2
  have hfr2 : ∀ i, i < 5 → M (ad2 i) = none := by
    intro i hi
    cases hz : M (ad2 i) with
    | none => rfl
    | some e9 =>
      have h1 := (congrFun hM_143 (ad2 i)).trans (gw_o hgn hz)
      rw [hf2 i hi] at h1
      cases h1
  exact gw_aret (v := some g) hx hb hr (Or.inl ⟨_, rfl⟩) hlocks hG hT (by omega) (by omega) dX0_snapshot_99 ⟨g, ad2, rfl, ⟨hc_284, hc_285, hc_286, hc_287, hc_288, hc_289, y_ne⟩, hgn, hfr2, hfin⟩
