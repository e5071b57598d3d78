section LW2
variable {G : ZG} {d q : Nat} {A : ZA} {α : AH} {u : Nat × Nat} {post : Option Value → AH → Prop}
theorem la_same (hx : lX G q) (hh : lH A u) (hr : LI A α) (h : lG G d q A u post) : Z G mL_law (d + 101) 1027 [some (.ref (G.2 50)), some (.ref (G.1 + 0)), some (.ref (G.1 + 34)), some (.int (nI q))] [] α u post := by
  obtain ⟨hrm, Γ, hrc⟩ := hr
  refine Z_aload_n dL_law_1027 rfl rfl ?_
  refine Z_V0 (ci := 11) dL_law_1028 to_X11_same lk_L_130 iv_X11_same ⟨rfl, rfl⟩ (cw_i0 hrc.1) (Nat.le_of_ble_eq_true rfl) (hh.z (K := 2) (S := 6) (by decide)) ?_
  refine k_same hrc (fun β hb hf => ?_)
  have hm := hrm.c hf
  refine Z_aload_n dL_law_1031 rfl rfl ?_
  refine Z_V0z (ci := 12) dL_law_1032 to_X12_same lk_L_133 iv_X12_same ⟨rfl, rfl⟩ (mw_i34 hm.1) (Nat.le_of_ble_eq_true rfl) ⟨rfl, rfl⟩ (hh.z (K := 2) (S := 6) (by decide)) ?_
  refine c_msame hm (fun γ hg hf2 => ?_)
  have hc := CRel.m hb hf2
  refine Z_icmp_eq (tgt := 1188) dL_law_1035 (by decide) (fun h1035 => ?_) (fun h1035 => ?_)
  · skip
    exact h _ _ _ ⟨hg, Γ, hc⟩ (Nat.le_add_right _ _) ⟨Nat.add_le_add_left (by decide : 2 ≤ 5) _, Nat.add_le_add_left (by decide : 6 ≤ 320) _⟩
  · skip
    exact absurd rfl h1035
theorem la_act (hx : lX G q) (hh : lH A u) (hr : LI A α) (h : lG G d q A u post) : Z G mL_law (d + 101) 1040 [some (.ref (G.2 50)), some (.ref (G.1 + 0)), some (.ref (G.1 + 34)), some (.int (nI q))] [] α u post := by
  obtain ⟨hrm, Γ, hrc⟩ := hr
  refine Z_aload_n dL_law_1040 rfl rfl ?_
  refine Z_aload_n dL_law_1041 rfl rfl ?_
  refine Z_iload_n dL_law_1042 rfl rfl ?_
  refine Z_iconst (v := 1) dL_law_1043 (by decide) ?_
  refine Z_iadd dL_law_1044 ?_
  refine Z_scr dL_law_1045 hx.2.1 ?_
  refine Z_aload_n dL_law_1046 rfl rfl ?_
  refine Z_iload_n dL_law_1047 rfl rfl ?_
  refine Z_iconst (v := 2) dL_law_1048 (by decide) ?_
  refine Z_iadd dL_law_1049 ?_
  refine Z_scr dL_law_1050 hx.2.2.1 ?_
  refine Z_aload_n dL_law_1051 rfl rfl ?_
  refine Z_iload_n dL_law_1052 rfl rfl ?_
  refine Z_iconst (v := 3) dL_law_1053 (by decide) ?_
  refine Z_iadd dL_law_1054 ?_
  refine Z_scr dL_law_1055 hx.2.2.2.1 ?_
  refine Z_V3z (ci := 11) dL_law_1056 to_X11_act lk_L_134 iv_X11_act ⟨rfl, rfl⟩ (cw_i0 hrc.1) (Nat.le_of_ble_eq_true rfl) ⟨rfl, rfl⟩ hh.o ?_
  refine k_act hrc (fun β hb hf => ?_)
  have hm := hrm.c hf
  refine Z_aload_n dL_law_1059 rfl rfl ?_
  refine Z_aload_n dL_law_1060 rfl rfl ?_
  refine Z_iload_n dL_law_1061 rfl rfl ?_
  refine Z_iconst (v := 1) dL_law_1062 (by decide) ?_
  refine Z_iadd dL_law_1063 ?_
  refine Z_scr dL_law_1064 hx.2.1 ?_
  refine Z_aload_n dL_law_1065 rfl rfl ?_
  refine Z_iload_n dL_law_1066 rfl rfl ?_
  refine Z_iconst (v := 2) dL_law_1067 (by decide) ?_
  refine Z_iadd dL_law_1068 ?_
  refine Z_scr dL_law_1069 hx.2.2.1 ?_
  refine Z_aload_n dL_law_1070 rfl rfl ?_
  refine Z_iload_n dL_law_1071 rfl rfl ?_
  refine Z_iconst (v := 3) dL_law_1072 (by decide) ?_
  refine Z_iadd dL_law_1073 ?_
  refine Z_scr dL_law_1074 hx.2.2.2.1 ?_
  refine Z_V3z (ci := 12) dL_law_1075 to_X12_act lk_L_137 iv_X12_act ⟨rfl, rfl⟩ (mw_i34 hm.1) (Nat.le_of_ble_eq_true rfl) ⟨rfl, rfl⟩ hh.o ?_
  refine c_mact hm (fun γ hg hf2 => ?_)
  have hc := CRel.m hb hf2
  refine Z_icmp_eq (tgt := 1188) dL_law_1078 (by decide) (fun h1078 => ?_) (fun h1078 => ?_)
  · skip
    exact h _ _ _ ⟨hg, Γ, hc⟩ (by rw [ls_act]; exact Nat.le_add_right _ _) ⟨Nat.le_add_right _ _, Nat.le_add_right _ _⟩
  · skip
    exact absurd rfl h1078
theorem la_trace (hx : lX G q) (hh : lH A u) (hr : LI A α) (h : lG G d q A u post) : Z G mL_law (d + 101) 1083 [some (.ref (G.2 50)), some (.ref (G.1 + 0)), some (.ref (G.1 + 34)), some (.int (nI q))] [] α u post := by
  obtain ⟨hrm, Γ, hrc⟩ := hr
  refine Z_aload_n dL_law_1083 rfl rfl ?_
  refine Z_aload_n dL_law_1084 rfl rfl ?_
  refine Z_iload_n dL_law_1085 rfl rfl ?_
  refine Z_iconst (v := 1) dL_law_1086 (by decide) ?_
  refine Z_iadd dL_law_1087 ?_
  refine Z_scr dL_law_1088 hx.2.1 ?_
  refine Z_V1z (ci := 11) dL_law_1089 to_X11_trace lk_L_138 iv_X11_trace ⟨rfl, rfl⟩ (cw_i0 hrc.1) (Nat.le_of_ble_eq_true rfl) ⟨rfl, rfl⟩ hh.o ?_
  refine k_trace hrc ?_
  have hm := hrm
  have hb := hrc
  refine Z_aload_n dL_law_1092 rfl rfl ?_
  refine Z_aload_n dL_law_1093 rfl rfl ?_
  refine Z_iload_n dL_law_1094 rfl rfl ?_
  refine Z_iconst (v := 1) dL_law_1095 (by decide) ?_
  refine Z_iadd dL_law_1096 ?_
  refine Z_scr dL_law_1097 hx.2.1 ?_
  refine Z_V1z (ci := 12) dL_law_1098 to_X12_trace lk_L_141 iv_X12_trace ⟨rfl, rfl⟩ (mw_i34 hm.1) (Nat.le_of_ble_eq_true rfl) ⟨rfl, rfl⟩ hh.o ?_
  refine c_mtrace hm ?_
  have hc := hb
  have hg := hm
  refine Z_icmp_eq (tgt := 1188) dL_law_1101 (by decide) (fun h1101 => ?_) (fun h1101 => ?_)
  · skip
    exact h _ _ _ ⟨hg, Γ, hc⟩ (Nat.le_add_right _ _) ⟨Nat.le_add_right _ _, Nat.le_add_right _ _⟩
  · skip
    exact absurd rfl h1101
theorem la_as (hx : lX G q) (hh : lH A u) (hr : LI A α) (h : lG G d q A u post) : Z G mL_law (d + 101) 1106 [some (.ref (G.2 50)), some (.ref (G.1 + 0)), some (.ref (G.1 + 34)), some (.int (nI q))] [] α u post := by
  obtain ⟨hrm, Γ, hrc⟩ := hr
  refine Z_aload_n dL_law_1106 rfl rfl ?_
  refine Z_aload_n dL_law_1107 rfl rfl ?_
  refine Z_iload_n dL_law_1108 rfl rfl ?_
  refine Z_iconst (v := 1) dL_law_1109 (by decide) ?_
  refine Z_iadd dL_law_1110 ?_
  refine Z_scr dL_law_1111 hx.2.1 ?_
  refine Z_aload_n dL_law_1112 rfl rfl ?_
  refine Z_iload_n dL_law_1113 rfl rfl ?_
  refine Z_iconst (v := 2) dL_law_1114 (by decide) ?_
  refine Z_iadd dL_law_1115 ?_
  refine Z_scr dL_law_1116 hx.2.2.1 ?_
  refine Z_V2z (ci := 11) dL_law_1117 to_X11_as lk_L_142 iv_X11_as ⟨rfl, rfl⟩ (cw_i0 hrc.1) (Nat.le_of_ble_eq_true rfl) ⟨rfl, rfl⟩ hh.o ?_
  refine k_as hrc ?_
  have hm := hrm
  have hb := hrc
  refine Z_aload_n dL_law_1120 rfl rfl ?_
  refine Z_aload_n dL_law_1121 rfl rfl ?_
  refine Z_iload_n dL_law_1122 rfl rfl ?_
  refine Z_iconst (v := 1) dL_law_1123 (by decide) ?_
  refine Z_iadd dL_law_1124 ?_
  refine Z_scr dL_law_1125 hx.2.1 ?_
  refine Z_aload_n dL_law_1126 rfl rfl ?_
  refine Z_iload_n dL_law_1127 rfl rfl ?_
  refine Z_iconst (v := 2) dL_law_1128 (by decide) ?_
  refine Z_iadd dL_law_1129 ?_
  refine Z_scr dL_law_1130 hx.2.2.1 ?_
  refine Z_V2z (ci := 12) dL_law_1131 to_X12_as lk_L_145 iv_X12_as ⟨rfl, rfl⟩ (mw_i34 hm.1) (Nat.le_of_ble_eq_true rfl) ⟨rfl, rfl⟩ hh.o ?_
  refine c_mas hm ?_
  have hc := hb
  have hg := hm
  refine Z_icmp_eq (tgt := 1188) dL_law_1134 (by decide) (fun h1134 => ?_) (fun h1134 => ?_)
  · skip
    exact h _ _ _ ⟨hg, Γ, hc⟩ (Nat.le_add_right _ _) ⟨Nat.le_add_right _ _, Nat.le_add_right _ _⟩
  · skip
    exact absurd rfl h1134
theorem la_image (hx : lX G q) (hh : lH A u) (hr : LI A α) (h : lG G d q A u post) : Z G mL_law (d + 101) 1139 [some (.ref (G.2 50)), some (.ref (G.1 + 0)), some (.ref (G.1 + 34)), some (.int (nI q))] [] α u post := by
  obtain ⟨hrm, Γ, hrc⟩ := hr
  refine Z_aload_n dL_law_1139 rfl rfl ?_
  refine Z_V0z (ci := 11) dL_law_1140 to_X11_image lk_L_146 iv_X11_image ⟨rfl, rfl⟩ (cw_i0 hrc.1) (Nat.le_of_ble_eq_true rfl) ⟨rfl, rfl⟩ hh.o ?_
  refine k_image hrc (fun β hb hf => ?_)
  have hm := hrm.c hf
  refine Z_aload_n dL_law_1143 rfl rfl ?_
  refine Z_V0z (ci := 12) dL_law_1144 to_X12_image lk_L_149 iv_X12_image ⟨rfl, rfl⟩ (mw_i34 hm.1) (Nat.le_of_ble_eq_true rfl) ⟨rfl, rfl⟩ hh.o ?_
  refine c_mimage hm (fun γ hg hf2 => ?_)
  have hc := CRel.m hb hf2
  refine Z_icmp_eq (tgt := 1188) dL_law_1147 (by decide) (fun h1147 => ?_) (fun h1147 => ?_)
  · skip
    exact h _ _ _ ⟨hg, Γ, hc⟩ (Nat.le_add_right _ _) ⟨Nat.le_add_right _ _, Nat.le_add_right _ _⟩
  · skip
    exact absurd rfl h1147
theorem la_undo (hx : lX G q) (hh : lH A u) (hr : LI A α) (h : lG G d q A u post) : Z G mL_law (d + 101) 1152 [some (.ref (G.2 50)), some (.ref (G.1 + 0)), some (.ref (G.1 + 34)), some (.int (nI q))] [] α u post := by
  obtain ⟨hrm, Γ, hrc⟩ := hr
  refine Z_aload_n dL_law_1152 rfl rfl ?_
  refine Z_V0z (ci := 11) dL_law_1153 to_X11_undo lk_L_150 iv_X11_undo ⟨rfl, rfl⟩ (cw_i0 hrc.1) (Nat.le_of_ble_eq_true rfl) ⟨rfl, rfl⟩ hh.o ?_
  refine k_undo hrc (fun β hb hf => ?_)
  have hm := hrm.c hf
  refine Z_aload_n dL_law_1156 rfl rfl ?_
  refine Z_V0z (ci := 12) dL_law_1157 to_X12_undo lk_L_153 iv_X12_undo ⟨rfl, rfl⟩ (mw_i34 hm.1) (Nat.le_of_ble_eq_true rfl) ⟨rfl, rfl⟩ hh.o ?_
  refine c_mundo hm (fun γ hg hf2 => ?_)
  have hc := CRel.m hb hf2
  refine Z_icmp_eq (tgt := 1188) dL_law_1160 (by decide) (fun h1160 => ?_) (fun h1160 => ?_)
  · skip
    exact h _ _ _ ⟨hg, Γ, hc⟩ (by rw [ls_undo]; exact Nat.le_add_right _ _) ⟨Nat.le_add_right _ _, Nat.le_add_right _ _⟩
  · skip
    exact absurd rfl h1160
theorem la_count (hx : lX G q) (hh : lH A u) (hr : LI A α) (h : lG G d q A u post) : Z G mL_law (d + 101) 1165 [some (.ref (G.2 50)), some (.ref (G.1 + 0)), some (.ref (G.1 + 34)), some (.int (nI q))] [] α u post := by
  obtain ⟨hrm, Γ, hrc⟩ := hr
  refine Z_aload_n dL_law_1165 rfl rfl ?_
  refine Z_aload_n dL_law_1166 rfl rfl ?_
  refine Z_iload_n dL_law_1167 rfl rfl ?_
  refine Z_iconst (v := 1) dL_law_1168 (by decide) ?_
  refine Z_iadd dL_law_1169 ?_
  refine Z_scr dL_law_1170 hx.2.1 ?_
  refine Z_V1z (ci := 11) dL_law_1171 to_X11_count lk_L_154 iv_X11_count ⟨rfl, rfl⟩ (cw_i0 hrc.1) (Nat.le_of_ble_eq_true rfl) ⟨rfl, rfl⟩ hh.o ?_
  refine k_count hrc ?_
  have hm := hrm
  have hb := hrc
  refine Z_aload_n dL_law_1174 rfl rfl ?_
  refine Z_aload_n dL_law_1175 rfl rfl ?_
  refine Z_iload_n dL_law_1176 rfl rfl ?_
  refine Z_iconst (v := 1) dL_law_1177 (by decide) ?_
  refine Z_iadd dL_law_1178 ?_
  refine Z_scr dL_law_1179 hx.2.1 ?_
  refine Z_V1z (ci := 12) dL_law_1180 to_X12_count lk_L_157 iv_X12_count ⟨rfl, rfl⟩ (mw_i34 hm.1) (Nat.le_of_ble_eq_true rfl) ⟨rfl, rfl⟩ hh.o ?_
  refine c_mcount hm ?_
  have hc := hb
  have hg := hm
  refine Z_icmp_eq (tgt := 1188) dL_law_1183 (by decide) (fun h1183 => ?_) (fun h1183 => ?_)
  · skip
    exact h _ _ _ ⟨hg, Γ, hc⟩ (Nat.le_add_right _ _) ⟨Nat.le_add_right _ _, Nat.le_add_right _ _⟩
  · skip
    exact absurd rfl h1183
end LW2
