/-! THE LAW'S 'leads' -/
section YD
variable {h : aH} {Q : aR → Prop} {S : St} {z : Nat}
theorem l_leads {a b : Nat} (H : DeR h z S) (HS : okS S) (ha : a ≤ S.2.2.2.1) (hb : b ≤ S.2.2.2.1) (k : ∀ h' S', C2 S S' → okS S' → fro h h' z (z + 1899) → DeR h' z S' → Q (.inl (some (vI 1)), h')) : amT mL_leads 0 [vR z, vI (a : Int), vI (b : Int)] [] h Q := by
  have hr := HS.2.2.1
  have hx := H.1.1
  obtain ⟨m, v, S1, S2, S3, S4, ⟨v1, v0⟩, ⟨e1, e2, e3, e4⟩, ⟨e5, o1, e6, o2, e7⟩, ⟨e8, o3, e9⟩, ⟨f0, o4, f1, f2⟩, kk⟩ := lead_facts HS ha hb
  refine kr_aload_n (pc := 0) dL_leads_0 rfl ?_
  refine kr_bipush (pc := 1) dL_leads_1 (by decide) ?_
  refine kr_iload_n (pc := 3) dL_leads_3 rfl ?_
  refine kr_iadd (pc := 4) dL_leads_4 ⟨by omega, by omega⟩ ?_
  refine kr_bipush (pc := 5) dL_leads_5 (by decide) ?_
  refine kr_iload_n (pc := 7) dL_leads_7 rfl ?_
  refine kr_iadd (pc := 8) dL_leads_8 ⟨by omega, by omega⟩ ?_
  refine kr_v2 (pc := 9) dL_leads_9 rfl rfl (by assumption) (Nat.le_of_ble_eq_true rfl) rfl rfl (q_edits H HS (by omega) (by omega) e1 (fun h9 f9 D9 => ?_))
  show amT _ _ _ _ _ _
  have hx9 := D9.1.1
  refine kr_istore_n (pc := 12) dL_leads_12 (show 3 ≤ _ from by simp) (by decide) ?_
  simp only [stl, List.tail_cons, List.tail_nil]
  refine kr_iload_n (pc := 13) dL_leads_13 rfl ?_
  refine kr_if_ne (pc := 14) dL_leads_14 rfl (fun h14 => ?_) (fun h14 => ?_)
  · refine kr_iconst (pc := 21) dL_leads_21 (by decide) ?_
    refine kr_aload_n (pc := 22) dL_leads_22 rfl ?_
    refine kr_bipush (pc := 23) dL_leads_23 (by decide) ?_
    refine kr_iload_n (pc := 25) dL_leads_25 rfl ?_
    refine kr_iadd (pc := 26) dL_leads_26 ⟨by omega, by omega⟩ ?_
    refine kr_bipush (pc := 27) dL_leads_27 (by decide) ?_
    refine kr_iload_n (pc := 29) dL_leads_29 rfl ?_
    refine kr_iadd (pc := 30) dL_leads_30 ⟨by omega, by omega⟩ ?_
    refine kr_v2 (pc := 31) dL_leads_31 rfl rfl (by assumption) (Nat.le_of_ble_eq_true rfl) rfl rfl (q_same D9 HS (by omega) (by omega) e2 (fun h31 f31 D31 => ?_))
    show amT _ _ _ _ _ _
    have hx31 := D31.1.1
    refine kr_icmp_ne (pc := 34) dL_leads_34 rfl (fun h34 => by exfalso; omega) (fun h34 => ?_)
    refine kr_aload_n (pc := 37) dL_leads_37 rfl ?_
    refine kr_bipush (pc := 38) dL_leads_38 (by decide) ?_
    refine kr_iload_n (pc := 40) dL_leads_40 rfl ?_
    refine kr_iadd (pc := 41) dL_leads_41 ⟨by omega, by omega⟩ ?_
    refine kr_bipush (pc := 42) dL_leads_42 (by decide) ?_
    refine kr_iload_n (pc := 44) dL_leads_44 rfl ?_
    refine kr_iadd (pc := 45) dL_leads_45 ⟨by omega, by omega⟩ ?_
    refine kr_v2 (pc := 46) dL_leads_46 rfl rfl (by assumption) (Nat.le_of_ble_eq_true rfl) rfl rfl (q_same D31 HS (by omega) (by omega) e3 (fun h46 f46 D46 => ?_))
    show amT _ _ _ _ _ _
    have hx46 := D46.1.1
    refine kr_if_eq (pc := 49) dL_leads_49 rfl (fun h => absurd h (by decide)) (fun _ => ?_)
    refine kr_aload_n (pc := 52) dL_leads_52 rfl ?_
    refine kr_bipush (pc := 53) dL_leads_53 (by decide) ?_
    refine kr_iload_n (pc := 55) dL_leads_55 rfl ?_
    refine kr_iadd (pc := 56) dL_leads_56 ⟨by omega, by omega⟩ ?_
    refine kr_bipush (pc := 57) dL_leads_57 (by decide) ?_
    refine kr_iload_n (pc := 59) dL_leads_59 rfl ?_
    refine kr_iadd (pc := 60) dL_leads_60 ⟨by omega, by omega⟩ ?_
    refine kr_v2 (pc := 61) dL_leads_61 rfl rfl (by assumption) (Nat.le_of_ble_eq_true rfl) rfl rfl (q_edits D46 HS (by omega) (by omega) e4 (fun h61 f61 D61 => ?_))
    show amT _ _ _ _ _ _
    have hx61 := D61.1.1
    refine kr_if_ne (pc := 64) dL_leads_64 rfl (fun h => absurd h (by decide)) (fun _ => ?_)
    refine kr_iconst (pc := 67) dL_leads_67 (by decide) ?_
    refine kr_goto (pc := 68) dL_leads_68 rfl ?_
    refine kr_istore (pc := 72) dL_leads_72 (show 4 ≤ _ from by simp) (by decide) ?_
    simp only [stl, List.tail_cons, List.tail_nil]
    refine kr_aload_n (pc := 74) dL_leads_74 rfl ?_
    refine kr_iconst (pc := 75) dL_leads_75 (by decide) ?_
    refine kr_v1 (pc := 76) dL_leads_76 rfl rfl (by assumption) (Nat.le_of_ble_eq_true rfl) rfl (q_open D61 HS e5 (fun h76 f76 D76 => ?_))
    show amT _ _ _ _ _ _
    have hx76 := D76.1.1
    refine kr_pop (pc := 79) dL_leads_79 rfl ?_
    refine kr_aload_n (pc := 80) dL_leads_80 rfl ?_
    refine kr_iconst (pc := 81) dL_leads_81 (by decide) ?_
    refine kr_iload_n (pc := 82) dL_leads_82 rfl ?_
    refine kr_v2 (pc := 83) dL_leads_83 rfl rfl (by assumption) (Nat.le_of_ble_eq_true rfl) rfl rfl (q_load D76 o1 e6 (fun h83 f83 D83 => ?_))
    show amT _ _ _ _ _ _
    have hx83 := D83.1.1
    refine kr_iload (pc := 86) dL_leads_86 rfl ?_
    refine kr_if_eq (pc := 88) dL_leads_88 rfl (fun h => absurd h (by decide)) (fun _ => ?_)
    refine kr_aload_n (pc := 91) dL_leads_91 rfl ?_
    refine kr_iconst (pc := 92) dL_leads_92 (by decide) ?_
    refine kr_bipush (pc := 93) dL_leads_93 (by decide) ?_
    refine kr_iload_n (pc := 95) dL_leads_95 rfl ?_
    refine kr_iadd (pc := 96) dL_leads_96 ⟨by omega, by omega⟩ ?_
    refine kr_v2 (pc := 97) dL_leads_97 rfl rfl (by assumption) (Nat.le_of_ble_eq_true rfl) rfl rfl (q_same D83 o2 (by omega) (by omega) e7 (fun h97 f97 D97 => ?_))
    show amT _ _ _ _ _ _
    have hx97 := D97.1.1
    refine kr_if_eq (pc := 100) dL_leads_100 rfl (fun h => absurd h (by decide)) (fun _ => ?_)
    refine kr_aload_n (pc := 103) dL_leads_103 rfl ?_
    refine kr_iconst (pc := 104) dL_leads_104 (by decide) ?_
    refine kr_bipush (pc := 105) dL_leads_105 (by decide) ?_
    refine kr_iload_n (pc := 107) dL_leads_107 rfl ?_
    refine kr_iadd (pc := 108) dL_leads_108 ⟨by omega, by omega⟩ ?_
    refine kr_bipush (pc := 109) dL_leads_109 (by decide) ?_
    refine kr_iload_n (pc := 111) dL_leads_111 rfl ?_
    refine kr_iadd (pc := 112) dL_leads_112 ⟨by omega, by omega⟩ ?_
    refine kr_iconst (pc := 113) dL_leads_113 (by decide) ?_
    refine kr_v4 (pc := 114) dL_leads_114 rfl rfl (by assumption) (Nat.le_of_ble_eq_true rfl) rfl rfl rfl rfl (q_apply D97 o2 (by omega) (by omega) (Or.inl rfl) e8 (fun h114 f114 D114 => ?_))
    show amT _ _ _ _ _ _
    have hx114 := D114.1.1
    refine kr_iload_n (pc := 117) dL_leads_117 rfl ?_
    refine kr_icmp_ne (pc := 118) dL_leads_118 rfl (fun h118 => by exfalso; omega) (fun h118 => ?_)
    refine kr_aload_n (pc := 121) dL_leads_121 rfl ?_
    refine kr_iconst (pc := 122) dL_leads_122 (by decide) ?_
    refine kr_bipush (pc := 123) dL_leads_123 (by decide) ?_
    refine kr_iload_n (pc := 125) dL_leads_125 rfl ?_
    refine kr_iadd (pc := 126) dL_leads_126 ⟨by omega, by omega⟩ ?_
    refine kr_v2 (pc := 127) dL_leads_127 rfl rfl (by assumption) (Nat.le_of_ble_eq_true rfl) rfl rfl (q_same D114 o3 (by omega) (by omega) e9 (fun h127 f127 D127 => ?_))
    show amT _ _ _ _ _ _
    have hx127 := D127.1.1
    refine kr_if_eq (pc := 130) dL_leads_130 rfl (fun h => absurd h (by decide)) (fun _ => ?_)
    refine kr_iconst (pc := 133) dL_leads_133 (by decide) ?_
    refine kr_goto (pc := 134) dL_leads_134 rfl ?_
    refine kr_istore (pc := 138) dL_leads_138 (show 4 ≤ _ from by simp) (by decide) ?_
    simp only [stl, List.tail_cons, List.tail_nil]
    refine kr_iload (pc := 140) dL_leads_140 rfl ?_
    refine kr_if_eq (pc := 142) dL_leads_142 rfl (fun h => absurd h (by decide)) (fun _ => ?_)
    refine kr_aload_n (pc := 145) dL_leads_145 rfl ?_
    refine kr_iconst (pc := 146) dL_leads_146 (by decide) ?_
    refine kr_bipush (pc := 147) dL_leads_147 (by decide) ?_
    refine kr_iload_n (pc := 149) dL_leads_149 rfl ?_
    refine kr_iadd (pc := 150) dL_leads_150 ⟨by omega, by omega⟩ ?_
    refine kr_bipush (pc := 151) dL_leads_151 (by decide) ?_
    refine kr_iload_n (pc := 153) dL_leads_153 rfl ?_
    refine kr_iadd (pc := 154) dL_leads_154 ⟨by omega, by omega⟩ ?_
    refine kr_iconst (pc := 155) dL_leads_155 (by decide) ?_
    refine kr_v4 (pc := 156) dL_leads_156 rfl rfl (by assumption) (Nat.le_of_ble_eq_true rfl) rfl rfl rfl rfl (q_apply D127 o3 (by omega) (by omega) (Or.inr rfl) f0 (fun h156 f156 D156 => ?_))
    show amT _ _ _ _ _ _
    have hx156 := D156.1.1
    refine kr_iload_n (pc := 159) dL_leads_159 rfl ?_
    refine kr_icmp_ne (pc := 160) dL_leads_160 rfl (fun h160 => by exfalso; omega) (fun h160 => ?_)
    refine kr_aload_n (pc := 163) dL_leads_163 rfl ?_
    refine kr_iconst (pc := 164) dL_leads_164 (by decide) ?_
    refine kr_bipush (pc := 165) dL_leads_165 (by decide) ?_
    refine kr_iload_n (pc := 167) dL_leads_167 rfl ?_
    refine kr_iadd (pc := 168) dL_leads_168 ⟨by omega, by omega⟩ ?_
    refine kr_v2 (pc := 169) dL_leads_169 rfl rfl (by assumption) (Nat.le_of_ble_eq_true rfl) rfl rfl (q_same D156 o4 (by omega) (by omega) f1 (fun h169 f169 D169 => ?_))
    show amT _ _ _ _ _ _
    have hx169 := D169.1.1
    refine kr_if_eq (pc := 172) dL_leads_172 rfl (fun h => absurd h (by decide)) (fun _ => ?_)
    refine kr_aload_n (pc := 175) dL_leads_175 rfl ?_
    refine kr_iconst (pc := 176) dL_leads_176 (by decide) ?_
    refine kr_bipush (pc := 177) dL_leads_177 (by decide) ?_
    refine kr_iload_n (pc := 179) dL_leads_179 rfl ?_
    refine kr_iadd (pc := 180) dL_leads_180 ⟨by omega, by omega⟩ ?_
    refine kr_v2 (pc := 181) dL_leads_181 rfl rfl (by assumption) (Nat.le_of_ble_eq_true rfl) rfl rfl (q_edits D169 o4 (by omega) (by omega) f2 (fun h181 f181 D181 => ?_))
    show amT _ _ _ _ _ _
    refine kr_iload_n (pc := 184) dL_leads_184 rfl ?_
    refine kr_icmp_ne (pc := 185) dL_leads_185 rfl (fun h185 => by exfalso; omega) (fun h185 => ?_)
    refine kr_iconst (pc := 188) dL_leads_188 (by decide) ?_
    refine kr_goto (pc := 189) dL_leads_189 rfl ?_
    refine kr_ireturn (pc := 193) dL_leads_193 rfl ?_
    exact k h181 S4 kk o4 (f9.tr (f31.tr (f46.tr (f61.tr (f76.tr (f83.tr (f97.tr (f114.tr (f127.tr (f156.tr (f169.tr f181))))))))))) D181
  · refine kr_iconst (pc := 17) dL_leads_17 (by decide) ?_
    refine kr_goto (pc := 18) dL_leads_18 rfl ?_
    refine kr_aload_n (pc := 22) dL_leads_22 rfl ?_
    refine kr_bipush (pc := 23) dL_leads_23 (by decide) ?_
    refine kr_iload_n (pc := 25) dL_leads_25 rfl ?_
    refine kr_iadd (pc := 26) dL_leads_26 ⟨by omega, by omega⟩ ?_
    refine kr_bipush (pc := 27) dL_leads_27 (by decide) ?_
    refine kr_iload_n (pc := 29) dL_leads_29 rfl ?_
    refine kr_iadd (pc := 30) dL_leads_30 ⟨by omega, by omega⟩ ?_
    refine kr_v2 (pc := 31) dL_leads_31 rfl rfl (by assumption) (Nat.le_of_ble_eq_true rfl) rfl rfl (q_same D9 HS (by omega) (by omega) e2 (fun h31 f31 D31 => ?_))
    show amT _ _ _ _ _ _
    have hx31 := D31.1.1
    refine kr_icmp_ne (pc := 34) dL_leads_34 rfl (fun h34 => by exfalso; omega) (fun h34 => ?_)
    refine kr_aload_n (pc := 37) dL_leads_37 rfl ?_
    refine kr_bipush (pc := 38) dL_leads_38 (by decide) ?_
    refine kr_iload_n (pc := 40) dL_leads_40 rfl ?_
    refine kr_iadd (pc := 41) dL_leads_41 ⟨by omega, by omega⟩ ?_
    refine kr_bipush (pc := 42) dL_leads_42 (by decide) ?_
    refine kr_iload_n (pc := 44) dL_leads_44 rfl ?_
    refine kr_iadd (pc := 45) dL_leads_45 ⟨by omega, by omega⟩ ?_
    refine kr_v2 (pc := 46) dL_leads_46 rfl rfl (by assumption) (Nat.le_of_ble_eq_true rfl) rfl rfl (q_same D31 HS (by omega) (by omega) e3 (fun h46 f46 D46 => ?_))
    show amT _ _ _ _ _ _
    have hx46 := D46.1.1
    refine kr_if_eq (pc := 49) dL_leads_49 rfl (fun h => absurd h (by decide)) (fun _ => ?_)
    refine kr_aload_n (pc := 52) dL_leads_52 rfl ?_
    refine kr_bipush (pc := 53) dL_leads_53 (by decide) ?_
    refine kr_iload_n (pc := 55) dL_leads_55 rfl ?_
    refine kr_iadd (pc := 56) dL_leads_56 ⟨by omega, by omega⟩ ?_
    refine kr_bipush (pc := 57) dL_leads_57 (by decide) ?_
    refine kr_iload_n (pc := 59) dL_leads_59 rfl ?_
    refine kr_iadd (pc := 60) dL_leads_60 ⟨by omega, by omega⟩ ?_
    refine kr_v2 (pc := 61) dL_leads_61 rfl rfl (by assumption) (Nat.le_of_ble_eq_true rfl) rfl rfl (q_edits D46 HS (by omega) (by omega) e4 (fun h61 f61 D61 => ?_))
    show amT _ _ _ _ _ _
    have hx61 := D61.1.1
    refine kr_if_ne (pc := 64) dL_leads_64 rfl (fun h => absurd h (by decide)) (fun _ => ?_)
    refine kr_iconst (pc := 67) dL_leads_67 (by decide) ?_
    refine kr_goto (pc := 68) dL_leads_68 rfl ?_
    refine kr_istore (pc := 72) dL_leads_72 (show 4 ≤ _ from by simp) (by decide) ?_
    simp only [stl, List.tail_cons, List.tail_nil]
    refine kr_aload_n (pc := 74) dL_leads_74 rfl ?_
    refine kr_iconst (pc := 75) dL_leads_75 (by decide) ?_
    refine kr_v1 (pc := 76) dL_leads_76 rfl rfl (by assumption) (Nat.le_of_ble_eq_true rfl) rfl (q_open D61 HS e5 (fun h76 f76 D76 => ?_))
    show amT _ _ _ _ _ _
    have hx76 := D76.1.1
    refine kr_pop (pc := 79) dL_leads_79 rfl ?_
    refine kr_aload_n (pc := 80) dL_leads_80 rfl ?_
    refine kr_iconst (pc := 81) dL_leads_81 (by decide) ?_
    refine kr_iload_n (pc := 82) dL_leads_82 rfl ?_
    refine kr_v2 (pc := 83) dL_leads_83 rfl rfl (by assumption) (Nat.le_of_ble_eq_true rfl) rfl rfl (q_load D76 o1 e6 (fun h83 f83 D83 => ?_))
    show amT _ _ _ _ _ _
    have hx83 := D83.1.1
    refine kr_iload (pc := 86) dL_leads_86 rfl ?_
    refine kr_if_eq (pc := 88) dL_leads_88 rfl (fun h => absurd h (by decide)) (fun _ => ?_)
    refine kr_aload_n (pc := 91) dL_leads_91 rfl ?_
    refine kr_iconst (pc := 92) dL_leads_92 (by decide) ?_
    refine kr_bipush (pc := 93) dL_leads_93 (by decide) ?_
    refine kr_iload_n (pc := 95) dL_leads_95 rfl ?_
    refine kr_iadd (pc := 96) dL_leads_96 ⟨by omega, by omega⟩ ?_
    refine kr_v2 (pc := 97) dL_leads_97 rfl rfl (by assumption) (Nat.le_of_ble_eq_true rfl) rfl rfl (q_same D83 o2 (by omega) (by omega) e7 (fun h97 f97 D97 => ?_))
    show amT _ _ _ _ _ _
    have hx97 := D97.1.1
    refine kr_if_eq (pc := 100) dL_leads_100 rfl (fun h => absurd h (by decide)) (fun _ => ?_)
    refine kr_aload_n (pc := 103) dL_leads_103 rfl ?_
    refine kr_iconst (pc := 104) dL_leads_104 (by decide) ?_
    refine kr_bipush (pc := 105) dL_leads_105 (by decide) ?_
    refine kr_iload_n (pc := 107) dL_leads_107 rfl ?_
    refine kr_iadd (pc := 108) dL_leads_108 ⟨by omega, by omega⟩ ?_
    refine kr_bipush (pc := 109) dL_leads_109 (by decide) ?_
    refine kr_iload_n (pc := 111) dL_leads_111 rfl ?_
    refine kr_iadd (pc := 112) dL_leads_112 ⟨by omega, by omega⟩ ?_
    refine kr_iconst (pc := 113) dL_leads_113 (by decide) ?_
    refine kr_v4 (pc := 114) dL_leads_114 rfl rfl (by assumption) (Nat.le_of_ble_eq_true rfl) rfl rfl rfl rfl (q_apply D97 o2 (by omega) (by omega) (Or.inl rfl) e8 (fun h114 f114 D114 => ?_))
    show amT _ _ _ _ _ _
    have hx114 := D114.1.1
    refine kr_iload_n (pc := 117) dL_leads_117 rfl ?_
    refine kr_icmp_ne (pc := 118) dL_leads_118 rfl (fun h118 => by exfalso; omega) (fun h118 => ?_)
    refine kr_aload_n (pc := 121) dL_leads_121 rfl ?_
    refine kr_iconst (pc := 122) dL_leads_122 (by decide) ?_
    refine kr_bipush (pc := 123) dL_leads_123 (by decide) ?_
    refine kr_iload_n (pc := 125) dL_leads_125 rfl ?_
    refine kr_iadd (pc := 126) dL_leads_126 ⟨by omega, by omega⟩ ?_
    refine kr_v2 (pc := 127) dL_leads_127 rfl rfl (by assumption) (Nat.le_of_ble_eq_true rfl) rfl rfl (q_same D114 o3 (by omega) (by omega) e9 (fun h127 f127 D127 => ?_))
    show amT _ _ _ _ _ _
    have hx127 := D127.1.1
    refine kr_if_eq (pc := 130) dL_leads_130 rfl (fun h => absurd h (by decide)) (fun _ => ?_)
    refine kr_iconst (pc := 133) dL_leads_133 (by decide) ?_
    refine kr_goto (pc := 134) dL_leads_134 rfl ?_
    refine kr_istore (pc := 138) dL_leads_138 (show 4 ≤ _ from by simp) (by decide) ?_
    simp only [stl, List.tail_cons, List.tail_nil]
    refine kr_iload (pc := 140) dL_leads_140 rfl ?_
    refine kr_if_eq (pc := 142) dL_leads_142 rfl (fun h => absurd h (by decide)) (fun _ => ?_)
    refine kr_aload_n (pc := 145) dL_leads_145 rfl ?_
    refine kr_iconst (pc := 146) dL_leads_146 (by decide) ?_
    refine kr_bipush (pc := 147) dL_leads_147 (by decide) ?_
    refine kr_iload_n (pc := 149) dL_leads_149 rfl ?_
    refine kr_iadd (pc := 150) dL_leads_150 ⟨by omega, by omega⟩ ?_
    refine kr_bipush (pc := 151) dL_leads_151 (by decide) ?_
    refine kr_iload_n (pc := 153) dL_leads_153 rfl ?_
    refine kr_iadd (pc := 154) dL_leads_154 ⟨by omega, by omega⟩ ?_
    refine kr_iconst (pc := 155) dL_leads_155 (by decide) ?_
    refine kr_v4 (pc := 156) dL_leads_156 rfl rfl (by assumption) (Nat.le_of_ble_eq_true rfl) rfl rfl rfl rfl (q_apply D127 o3 (by omega) (by omega) (Or.inr rfl) f0 (fun h156 f156 D156 => ?_))
    show amT _ _ _ _ _ _
    have hx156 := D156.1.1
    refine kr_iload_n (pc := 159) dL_leads_159 rfl ?_
    refine kr_icmp_ne (pc := 160) dL_leads_160 rfl (fun h160 => by exfalso; omega) (fun h160 => ?_)
    refine kr_aload_n (pc := 163) dL_leads_163 rfl ?_
    refine kr_iconst (pc := 164) dL_leads_164 (by decide) ?_
    refine kr_bipush (pc := 165) dL_leads_165 (by decide) ?_
    refine kr_iload_n (pc := 167) dL_leads_167 rfl ?_
    refine kr_iadd (pc := 168) dL_leads_168 ⟨by omega, by omega⟩ ?_
    refine kr_v2 (pc := 169) dL_leads_169 rfl rfl (by assumption) (Nat.le_of_ble_eq_true rfl) rfl rfl (q_same D156 o4 (by omega) (by omega) f1 (fun h169 f169 D169 => ?_))
    show amT _ _ _ _ _ _
    have hx169 := D169.1.1
    refine kr_if_eq (pc := 172) dL_leads_172 rfl (fun h => absurd h (by decide)) (fun _ => ?_)
    refine kr_aload_n (pc := 175) dL_leads_175 rfl ?_
    refine kr_iconst (pc := 176) dL_leads_176 (by decide) ?_
    refine kr_bipush (pc := 177) dL_leads_177 (by decide) ?_
    refine kr_iload_n (pc := 179) dL_leads_179 rfl ?_
    refine kr_iadd (pc := 180) dL_leads_180 ⟨by omega, by omega⟩ ?_
    refine kr_v2 (pc := 181) dL_leads_181 rfl rfl (by assumption) (Nat.le_of_ble_eq_true rfl) rfl rfl (q_edits D169 o4 (by omega) (by omega) f2 (fun h181 f181 D181 => ?_))
    show amT _ _ _ _ _ _
    refine kr_iload_n (pc := 184) dL_leads_184 rfl ?_
    refine kr_icmp_ne (pc := 185) dL_leads_185 rfl (fun h185 => by exfalso; omega) (fun h185 => ?_)
    refine kr_iconst (pc := 188) dL_leads_188 (by decide) ?_
    refine kr_goto (pc := 189) dL_leads_189 rfl ?_
    refine kr_ireturn (pc := 193) dL_leads_193 rfl ?_
    exact k h181 S4 kk o4 (f9.tr (f31.tr (f46.tr (f61.tr (f76.tr (f83.tr (f97.tr (f114.tr (f127.tr (f156.tr (f169.tr f181))))))))))) D181
end YD
