section LW2
variable {G : ZG} {d q : Nat} {A : ZA} {α : AH} {u : Nat × Nat} {post : Option Value → AH → Prop}
theorem la_most (hx : lX G q) (hh : lH A u) (hr : LI A α) (h : lG G d q A u post) : Z G mL_law (d + 101) 755 [some (.ref (G.2 50)), some (.ref (G.1 + 0)), some (.ref (G.1 + 34)), some (.int (nI q))] [] α u post := by
  obtain ⟨hrm, Γ, hrc⟩ := hr
  refine Z_aload_n dL_law_755 rfl rfl ?_
  refine Z_V0z (ci := 11) dL_law_756 to_X11_most lk_L_93 iv_X11_most ⟨rfl, rfl⟩ (cw_i0 hrc.1) (Nat.le_of_ble_eq_true rfl) ⟨rfl, rfl⟩ hh.o ?_
  refine k_most hrc (fun β hb hf => ?_)
  have hm := hrm.c hf
  refine Z_aload_n dL_law_759 rfl rfl ?_
  refine Z_V0z (ci := 12) dL_law_760 to_X12_most lk_L_96 iv_X12_most ⟨rfl, rfl⟩ (mw_i34 hm.1) (Nat.le_of_ble_eq_true rfl) ⟨rfl, rfl⟩ hh.o ?_
  refine c_mmost hm (by have := hh.2; omega) (fun γ hg hf2 => ?_)
  have hc := CRel.up (n := 2) (CRel.m hb hf2)
  refine Z_icmp_eq (tgt := 1188) dL_law_763 (by decide) (fun h763 => ?_) (fun h763 => ?_)
  · skip
    exact h _ _ _ ⟨hg, Γ, hc⟩ (Nat.le_refl _) ⟨Nat.le_add_right _ _, Nat.le_add_right _ _⟩
  · skip
    exact absurd rfl h763
theorem la_put (hx : lX G q) (hh : lH A u) (hr : LI A α) (h : lG G d q A u post) : Z G mL_law (d + 101) 768 [some (.ref (G.2 50)), some (.ref (G.1 + 0)), some (.ref (G.1 + 34)), some (.int (nI q))] [] α u post := by
  obtain ⟨hrm, Γ, hrc⟩ := hr
  refine Z_aload_n dL_law_768 rfl rfl ?_
  refine Z_aload_n dL_law_769 rfl rfl ?_
  refine Z_iload_n dL_law_770 rfl rfl ?_
  refine Z_iconst (v := 1) dL_law_771 (by decide) ?_
  refine Z_iadd dL_law_772 ?_
  refine Z_scr dL_law_773 hx.2.1 ?_
  refine Z_aload_n dL_law_774 rfl rfl ?_
  refine Z_iload_n dL_law_775 rfl rfl ?_
  refine Z_iconst (v := 2) dL_law_776 (by decide) ?_
  refine Z_iadd dL_law_777 ?_
  refine Z_scr dL_law_778 hx.2.2.1 ?_
  refine Z_V2z (ci := 11) dL_law_779 to_X11_put lk_L_97 iv_X11_put ⟨rfl, rfl⟩ (cw_i0 hrc.1) (Nat.le_of_ble_eq_true rfl) ⟨rfl, rfl⟩ hh.o ?_
  refine k_put hrc (fun β hb hf => ?_)
  have hm := hrm.c hf
  refine Z_aload_n dL_law_782 rfl rfl ?_
  refine Z_aload_n dL_law_783 rfl rfl ?_
  refine Z_iload_n dL_law_784 rfl rfl ?_
  refine Z_iconst (v := 1) dL_law_785 (by decide) ?_
  refine Z_iadd dL_law_786 ?_
  refine Z_scr dL_law_787 hx.2.1 ?_
  refine Z_aload_n dL_law_788 rfl rfl ?_
  refine Z_iload_n dL_law_789 rfl rfl ?_
  refine Z_iconst (v := 2) dL_law_790 (by decide) ?_
  refine Z_iadd dL_law_791 ?_
  refine Z_scr dL_law_792 hx.2.2.1 ?_
  refine Z_V2z (ci := 12) dL_law_793 to_X12_put lk_L_100 iv_X12_put ⟨rfl, rfl⟩ (mw_i34 hm.1) (Nat.le_of_ble_eq_true rfl) ⟨rfl, rfl⟩ hh.o ?_
  refine c_mput hm (by have := hh.2; omega) (fun γ hg hf2 => ?_)
  have hc := CRel.up (n := 2) (CRel.m hb hf2)
  refine Z_lcmp dL_law_796 ?_
  refine Z_if_eq (tgt := 1188) dL_law_797 (by decide) (fun h797 => ?_) (fun h797 => ?_)
  · skip
    exact h _ _ _ ⟨hg, Γ, hc⟩ (Nat.le_refl _) ⟨Nat.le_add_right _ _, Nat.le_add_right _ _⟩
  · skip
    exact absurd lcmp_self h797
theorem la_pass (hx : lX G q) (hh : lH A u) (hr : LI A α) (h : lG G d q A u post) : Z G mL_law (d + 101) 802 [some (.ref (G.2 50)), some (.ref (G.1 + 0)), some (.ref (G.1 + 34)), some (.int (nI q))] [] α u post := by
  obtain ⟨hrm, Γ, hrc⟩ := hr
  refine Z_aload_n dL_law_802 rfl rfl ?_
  refine Z_aload_n dL_law_803 rfl rfl ?_
  refine Z_iload_n dL_law_804 rfl rfl ?_
  refine Z_iconst (v := 1) dL_law_805 (by decide) ?_
  refine Z_iadd dL_law_806 ?_
  refine Z_scr dL_law_807 hx.2.1 ?_
  refine Z_aload_n dL_law_808 rfl rfl ?_
  refine Z_iload_n dL_law_809 rfl rfl ?_
  refine Z_iconst (v := 2) dL_law_810 (by decide) ?_
  refine Z_iadd dL_law_811 ?_
  refine Z_scr dL_law_812 hx.2.2.1 ?_
  refine Z_V2z (ci := 11) dL_law_813 to_X11_pass lk_L_101 iv_X11_pass ⟨rfl, rfl⟩ (cw_i0 hrc.1) (Nat.le_of_ble_eq_true rfl) ⟨rfl, rfl⟩ hh.o ?_
  refine k_pass hrc (fun β hb hf => ?_)
  have hm := hrm.c hf
  refine Z_aload_n dL_law_816 rfl rfl ?_
  refine Z_aload_n dL_law_817 rfl rfl ?_
  refine Z_iload_n dL_law_818 rfl rfl ?_
  refine Z_iconst (v := 1) dL_law_819 (by decide) ?_
  refine Z_iadd dL_law_820 ?_
  refine Z_scr dL_law_821 hx.2.1 ?_
  refine Z_aload_n dL_law_822 rfl rfl ?_
  refine Z_iload_n dL_law_823 rfl rfl ?_
  refine Z_iconst (v := 2) dL_law_824 (by decide) ?_
  refine Z_iadd dL_law_825 ?_
  refine Z_scr dL_law_826 hx.2.2.1 ?_
  refine Z_V2z (ci := 12) dL_law_827 to_X12_pass lk_L_104 iv_X12_pass ⟨rfl, rfl⟩ (mw_i34 hm.1) (Nat.le_of_ble_eq_true rfl) ⟨rfl, rfl⟩ hh.o ?_
  refine c_mpass hm (by have := hh.2; omega) (fun γ hg hf2 => ?_)
  have hc := CRel.up (n := 2) (CRel.m hb hf2)
  refine Z_lcmp dL_law_830 ?_
  refine Z_if_eq (tgt := 1188) dL_law_831 (by decide) (fun h831 => ?_) (fun h831 => ?_)
  · skip
    exact h _ _ _ ⟨hg, Γ, hc⟩ (Nat.le_refl _) ⟨Nat.le_add_right _ _, Nat.le_add_right _ _⟩
  · skip
    exact absurd lcmp_self h831
theorem la_cover (hx : lX G q) (hh : lH A u) (hr : LI A α) (h : lG G d q A u post) : Z G mL_law (d + 101) 836 [some (.ref (G.2 50)), some (.ref (G.1 + 0)), some (.ref (G.1 + 34)), some (.int (nI q))] [] α u post := by
  obtain ⟨hrm, Γ, hrc⟩ := hr
  refine Z_aload_n dL_law_836 rfl rfl ?_
  refine Z_aload_n dL_law_837 rfl rfl ?_
  refine Z_iload_n dL_law_838 rfl rfl ?_
  refine Z_iconst (v := 1) dL_law_839 (by decide) ?_
  refine Z_iadd dL_law_840 ?_
  refine Z_scr dL_law_841 hx.2.1 ?_
  refine Z_aload_n dL_law_842 rfl rfl ?_
  refine Z_iload_n dL_law_843 rfl rfl ?_
  refine Z_iconst (v := 2) dL_law_844 (by decide) ?_
  refine Z_iadd dL_law_845 ?_
  refine Z_scr dL_law_846 hx.2.2.1 ?_
  refine Z_aload_n dL_law_847 rfl rfl ?_
  refine Z_iload_n dL_law_848 rfl rfl ?_
  refine Z_iconst (v := 3) dL_law_849 (by decide) ?_
  refine Z_iadd dL_law_850 ?_
  refine Z_scr dL_law_851 hx.2.2.2.1 ?_
  refine Z_V3z (ci := 11) dL_law_852 to_X11_cover lk_L_105 iv_X11_cover ⟨rfl, rfl⟩ (cw_i0 hrc.1) (Nat.le_of_ble_eq_true rfl) ⟨rfl, rfl⟩ hh.o ?_
  refine k_cover hrc ?_
  have hm := hrm
  have hb := hrc
  refine Z_aload_n dL_law_855 rfl rfl ?_
  refine Z_aload_n dL_law_856 rfl rfl ?_
  refine Z_iload_n dL_law_857 rfl rfl ?_
  refine Z_iconst (v := 1) dL_law_858 (by decide) ?_
  refine Z_iadd dL_law_859 ?_
  refine Z_scr dL_law_860 hx.2.1 ?_
  refine Z_aload_n dL_law_861 rfl rfl ?_
  refine Z_iload_n dL_law_862 rfl rfl ?_
  refine Z_iconst (v := 2) dL_law_863 (by decide) ?_
  refine Z_iadd dL_law_864 ?_
  refine Z_scr dL_law_865 hx.2.2.1 ?_
  refine Z_aload_n dL_law_866 rfl rfl ?_
  refine Z_iload_n dL_law_867 rfl rfl ?_
  refine Z_iconst (v := 3) dL_law_868 (by decide) ?_
  refine Z_iadd dL_law_869 ?_
  refine Z_scr dL_law_870 hx.2.2.2.1 ?_
  refine Z_V3z (ci := 12) dL_law_871 to_X12_cover lk_L_108 iv_X12_cover ⟨rfl, rfl⟩ (mw_i34 hm.1) (Nat.le_of_ble_eq_true rfl) ⟨rfl, rfl⟩ hh.o ?_
  refine c_mcover hm ?_
  have hc := hb
  have hg := hm
  refine Z_lcmp dL_law_874 ?_
  refine Z_if_eq (tgt := 1188) dL_law_875 (by decide) (fun h875 => ?_) (fun h875 => ?_)
  · skip
    exact h _ _ _ ⟨hg, Γ, hc⟩ (Nat.le_add_right _ _) ⟨Nat.le_add_right _ _, Nat.le_add_right _ _⟩
  · skip
    exact absurd lcmp_self h875
theorem la_right (hx : lX G q) (hh : lH A u) (hr : LI A α) (h : lG G d q A u post) : Z G mL_law (d + 101) 880 [some (.ref (G.2 50)), some (.ref (G.1 + 0)), some (.ref (G.1 + 34)), some (.int (nI q))] [] α u post := by
  obtain ⟨hrm, Γ, hrc⟩ := hr
  refine Z_aload_n dL_law_880 rfl rfl ?_
  refine Z_aload_n dL_law_881 rfl rfl ?_
  refine Z_iload_n dL_law_882 rfl rfl ?_
  refine Z_iconst (v := 1) dL_law_883 (by decide) ?_
  refine Z_iadd dL_law_884 ?_
  refine Z_scr dL_law_885 hx.2.1 ?_
  refine Z_aload_n dL_law_886 rfl rfl ?_
  refine Z_iload_n dL_law_887 rfl rfl ?_
  refine Z_iconst (v := 2) dL_law_888 (by decide) ?_
  refine Z_iadd dL_law_889 ?_
  refine Z_scr dL_law_890 hx.2.2.1 ?_
  refine Z_V2z (ci := 11) dL_law_891 to_X11_right lk_L_109 iv_X11_right ⟨rfl, rfl⟩ (cw_i0 hrc.1) (Nat.le_of_ble_eq_true rfl) ⟨rfl, rfl⟩ hh.o ?_
  refine k_right hrc (fun β hb hf => ?_)
  have hm := hrm.c hf
  refine Z_aload_n dL_law_894 rfl rfl ?_
  refine Z_aload_n dL_law_895 rfl rfl ?_
  refine Z_iload_n dL_law_896 rfl rfl ?_
  refine Z_iconst (v := 1) dL_law_897 (by decide) ?_
  refine Z_iadd dL_law_898 ?_
  refine Z_scr dL_law_899 hx.2.1 ?_
  refine Z_aload_n dL_law_900 rfl rfl ?_
  refine Z_iload_n dL_law_901 rfl rfl ?_
  refine Z_iconst (v := 2) dL_law_902 (by decide) ?_
  refine Z_iadd dL_law_903 ?_
  refine Z_scr dL_law_904 hx.2.2.1 ?_
  refine Z_V2z (ci := 12) dL_law_905 to_X12_right lk_L_112 iv_X12_right ⟨rfl, rfl⟩ (mw_i34 hm.1) (Nat.le_of_ble_eq_true rfl) ⟨rfl, rfl⟩ hh.o ?_
  refine c_mright hm (by have := hh.2; omega) (fun γ hg hf2 => ?_)
  have hc := CRel.up (n := 2) (CRel.m hb hf2)
  refine Z_lcmp dL_law_908 ?_
  refine Z_if_eq (tgt := 1188) dL_law_909 (by decide) (fun h909 => ?_) (fun h909 => ?_)
  · skip
    exact h _ _ _ ⟨hg, Γ, hc⟩ (Nat.le_refl _) ⟨Nat.le_add_right _ _, Nat.le_add_right _ _⟩
  · skip
    exact absurd lcmp_self h909
theorem la_book (hx : lX G q) (hh : lH A u) (hr : LI A α) (h : lG G d q A u post) : Z G mL_law (d + 101) 914 [some (.ref (G.2 50)), some (.ref (G.1 + 0)), some (.ref (G.1 + 34)), some (.int (nI q))] [] α u post := by
  obtain ⟨hrm, Γ, hrc⟩ := hr
  refine Z_aload_n dL_law_914 rfl rfl ?_
  refine Z_aload_n dL_law_915 rfl rfl ?_
  refine Z_iload_n dL_law_916 rfl rfl ?_
  refine Z_iconst (v := 1) dL_law_917 (by decide) ?_
  refine Z_iadd dL_law_918 ?_
  refine Z_scr dL_law_919 hx.2.1 ?_
  refine Z_V1z (ci := 11) dL_law_920 to_X11_book lk_L_113 iv_X11_book ⟨rfl, rfl⟩ (cw_i0 hrc.1) (Nat.le_of_ble_eq_true rfl) ⟨rfl, rfl⟩ hh.o ?_
  refine k_book hrc (fun β hb hf => ?_)
  have hm := hrm.c hf
  refine Z_aload_n dL_law_923 rfl rfl ?_
  refine Z_aload_n dL_law_924 rfl rfl ?_
  refine Z_iload_n dL_law_925 rfl rfl ?_
  refine Z_iconst (v := 1) dL_law_926 (by decide) ?_
  refine Z_iadd dL_law_927 ?_
  refine Z_scr dL_law_928 hx.2.1 ?_
  refine Z_V1z (ci := 12) dL_law_929 to_X12_book lk_L_116 iv_X12_book ⟨rfl, rfl⟩ (mw_i34 hm.1) (Nat.le_of_ble_eq_true rfl) ⟨rfl, rfl⟩ hh.o ?_
  refine c_mbook hm (fun γ hg hf2 => ?_)
  have hc := CRel.m hb hf2
  refine Z_icmp_eq (tgt := 1188) dL_law_932 (by decide) (fun h932 => ?_) (fun h932 => ?_)
  · skip
    exact h _ _ _ ⟨hg, Γ, hc⟩ (by rw [ls_book]; exact Nat.le_add_right _ _) ⟨Nat.le_add_right _ _, Nat.le_add_right _ _⟩
  · skip
    exact absurd rfl h932
theorem la_likely (hx : lX G q) (hh : lH A u) (hr : LI A α) (h : lG G d q A u post) : Z G mL_law (d + 101) 937 [some (.ref (G.2 50)), some (.ref (G.1 + 0)), some (.ref (G.1 + 34)), some (.int (nI q))] [] α u post := by
  obtain ⟨hrm, Γ, hrc⟩ := hr
  refine Z_aload_n dL_law_937 rfl rfl ?_
  refine Z_aload_n dL_law_938 rfl rfl ?_
  refine Z_iload_n dL_law_939 rfl rfl ?_
  refine Z_iconst (v := 1) dL_law_940 (by decide) ?_
  refine Z_iadd dL_law_941 ?_
  refine Z_scr dL_law_942 hx.2.1 ?_
  refine Z_V1 (ci := 11) dL_law_943 to_X11_likely lk_L_117 iv_X11_likely ⟨rfl, rfl⟩ (cw_i0 hrc.1) (Nat.le_of_ble_eq_true rfl) (hh.z (K := 1) (S := 3) (by decide)) ?_
  refine k_likely hrc (fun β hb hf => ?_)
  have hm := hrm.c hf
  refine Z_aload_n dL_law_946 rfl rfl ?_
  refine Z_aload_n dL_law_947 rfl rfl ?_
  refine Z_iload_n dL_law_948 rfl rfl ?_
  refine Z_iconst (v := 1) dL_law_949 (by decide) ?_
  refine Z_iadd dL_law_950 ?_
  refine Z_scr dL_law_951 hx.2.1 ?_
  refine Z_V1z (ci := 12) dL_law_952 to_X12_likely lk_L_121 iv_X12_likely ⟨rfl, rfl⟩ (mw_i34 hm.1) (Nat.le_of_ble_eq_true rfl) ⟨rfl, rfl⟩ (hh.z (K := 1) (S := 3) (by decide)) ?_
  refine c_mlikely hm (fun γ hg hf2 => ?_)
  have hc := CRel.m hb hf2
  refine Z_lcmp dL_law_955 ?_
  refine Z_if_eq (tgt := 1188) dL_law_956 (by decide) (fun h956 => ?_) (fun h956 => ?_)
  · skip
    exact h _ _ _ ⟨hg, Γ, hc⟩ (Nat.le_add_right _ _) ⟨Nat.add_le_add_left (by decide : 1 ≤ 5) _, Nat.add_le_add_left (by decide : 3 ≤ 320) _⟩
  · skip
    exact absurd lcmp_self h956
theorem la_judged (hx : lX G q) (hh : lH A u) (hr : LI A α) (h : lG G d q A u post) : Z G mL_law (d + 101) 961 [some (.ref (G.2 50)), some (.ref (G.1 + 0)), some (.ref (G.1 + 34)), some (.int (nI q))] [] α u post := by
  obtain ⟨hrm, Γ, hrc⟩ := hr
  refine Z_aload_n dL_law_961 rfl rfl ?_
  refine Z_aload_n dL_law_962 rfl rfl ?_
  refine Z_iload_n dL_law_963 rfl rfl ?_
  refine Z_iconst (v := 1) dL_law_964 (by decide) ?_
  refine Z_iadd dL_law_965 ?_
  refine Z_scr dL_law_966 hx.2.1 ?_
  refine Z_aload_n dL_law_967 rfl rfl ?_
  refine Z_iload_n dL_law_968 rfl rfl ?_
  refine Z_iconst (v := 2) dL_law_969 (by decide) ?_
  refine Z_iadd dL_law_970 ?_
  refine Z_scr dL_law_971 hx.2.2.1 ?_
  refine Z_V2z (ci := 11) dL_law_972 to_X11_judged lk_L_122 iv_X11_judged ⟨rfl, rfl⟩ (cw_i0 hrc.1) (Nat.le_of_ble_eq_true rfl) ⟨rfl, rfl⟩ hh.o ?_
  refine k_judged hrc (fun β hb hf => ?_)
  have hm := hrm.c hf
  refine Z_aload_n dL_law_975 rfl rfl ?_
  refine Z_aload_n dL_law_976 rfl rfl ?_
  refine Z_iload_n dL_law_977 rfl rfl ?_
  refine Z_iconst (v := 1) dL_law_978 (by decide) ?_
  refine Z_iadd dL_law_979 ?_
  refine Z_scr dL_law_980 hx.2.1 ?_
  refine Z_aload_n dL_law_981 rfl rfl ?_
  refine Z_iload_n dL_law_982 rfl rfl ?_
  refine Z_iconst (v := 2) dL_law_983 (by decide) ?_
  refine Z_iadd dL_law_984 ?_
  refine Z_scr dL_law_985 hx.2.2.1 ?_
  refine Z_V2z (ci := 12) dL_law_986 to_X12_judged lk_L_125 iv_X12_judged ⟨rfl, rfl⟩ (mw_i34 hm.1) (Nat.le_of_ble_eq_true rfl) ⟨rfl, rfl⟩ hh.o ?_
  refine c_mjudged hm (by have := hh.2; omega) (fun γ hg hf2 => ?_)
  have hc := CRel.up (n := 2) (CRel.m hb hf2)
  refine Z_icmp_eq (tgt := 1188) dL_law_989 (by decide) (fun h989 => ?_) (fun h989 => ?_)
  · skip
    exact h _ _ _ ⟨hg, Γ, hc⟩ (Nat.le_refl _) ⟨Nat.le_add_right _ _, Nat.le_add_right _ _⟩
  · skip
    exact absurd rfl h989
theorem la_other (hx : lX G q) (hh : lH A u) (hr : LI A α) (h : lG G d q A u post) : Z G mL_law (d + 101) 994 [some (.ref (G.2 50)), some (.ref (G.1 + 0)), some (.ref (G.1 + 34)), some (.int (nI q))] [] α u post := by
  obtain ⟨hrm, Γ, hrc⟩ := hr
  refine Z_aload_n dL_law_994 rfl rfl ?_
  refine Z_aload_n dL_law_995 rfl rfl ?_
  refine Z_iload_n dL_law_996 rfl rfl ?_
  refine Z_iconst (v := 1) dL_law_997 (by decide) ?_
  refine Z_iadd dL_law_998 ?_
  refine Z_scr dL_law_999 hx.2.1 ?_
  refine Z_aload_n dL_law_1000 rfl rfl ?_
  refine Z_iload_n dL_law_1001 rfl rfl ?_
  refine Z_iconst (v := 2) dL_law_1002 (by decide) ?_
  refine Z_iadd dL_law_1003 ?_
  refine Z_scr dL_law_1004 hx.2.2.1 ?_
  refine Z_V2z (ci := 11) dL_law_1005 to_X11_other lk_L_126 iv_X11_other ⟨rfl, rfl⟩ (cw_i0 hrc.1) (Nat.le_of_ble_eq_true rfl) ⟨rfl, rfl⟩ hh.o ?_
  refine k_other hrc (fun β hb hf => ?_)
  have hm := hrm.c hf
  refine Z_aload_n dL_law_1008 rfl rfl ?_
  refine Z_aload_n dL_law_1009 rfl rfl ?_
  refine Z_iload_n dL_law_1010 rfl rfl ?_
  refine Z_iconst (v := 1) dL_law_1011 (by decide) ?_
  refine Z_iadd dL_law_1012 ?_
  refine Z_scr dL_law_1013 hx.2.1 ?_
  refine Z_aload_n dL_law_1014 rfl rfl ?_
  refine Z_iload_n dL_law_1015 rfl rfl ?_
  refine Z_iconst (v := 2) dL_law_1016 (by decide) ?_
  refine Z_iadd dL_law_1017 ?_
  refine Z_scr dL_law_1018 hx.2.2.1 ?_
  refine Z_V2z (ci := 12) dL_law_1019 to_X12_other lk_L_129 iv_X12_other ⟨rfl, rfl⟩ (mw_i34 hm.1) (Nat.le_of_ble_eq_true rfl) ⟨rfl, rfl⟩ hh.o ?_
  refine c_mother hm (fun γ hg hf2 => ?_)
  have hc := CRel.m hb hf2
  refine Z_icmp_eq (tgt := 1188) dL_law_1022 (by decide) (fun h1022 => ?_) (fun h1022 => ?_)
  · skip
    exact h _ _ _ ⟨hg, Γ, hc⟩ (by rw [ls_chg]; exact Nat.le_add_right _ _) ⟨Nat.le_add_right _ _, Nat.le_add_right _ _⟩
  · skip
    exact absurd rfl h1022
end LW2
