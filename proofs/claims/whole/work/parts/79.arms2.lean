/-! THE LAW's arms: a call on both sides, the same answer (laid by gen_law.py) -/
set_option maxRecDepth 100000 in
set_option maxHeartbeats 4000000 in
theorem la_broken {Γ : Gx} {Ω : Om} {ret : Option FieldType} {sb n i : Nat} {xs : Nat → Int32} (hX : Scr Γ Ω sb n xs) (hi : i + 7 ≤ n) (next : ∀ (M : Mem) (σ : Sg), IC M σ → IM M σ → SgI σ → X Γ Ω RL cL_law 4 12 ret 1377 [some (.ref sb), some (.ref (Ω.2.2 0)), some (.ref (Ω.2.2 34)), some (.int (nI i))] [] M) {M : Mem} {σ : Sg} (hC : IC M σ) (hM : IM M σ) (hI : SgI σ) : X Γ Ω RL cL_law 4 12 ret 747 [some (.ref sb), some (.ref (Ω.2.2 0)), some (.ref (Ω.2.2 34)), some (.int (nI i))] [] M := by
  refine x_aload_n dL_law_747 rfl ?_
  refine x_arg (k := 1) hX hi dL_law_748 dL_law_749 dL_law_750 rfl dL_law_751 dL_law_752 (by decide) ?_
  refine x_callV (n := 1) (c_broken hC hI.1) dL_law_753 (q := 0) (ci := 10) (by decide) rfl (by decide) rfl (al4 (tb 719 (by decide +kernel) (by decide +kernel)) (tb 720 (by decide +kernel) (by decide +kernel)) (tb 721 (by decide +kernel) (by decide +kernel)) (tb 77 (by decide +kernel) (by decide +kernel))) (tb 722 (by decide +kernel) (by decide +kernel)) (by decide +kernel) (by decide) (by decide) rfl rfl (Nat.le_of_ble_eq_true rfl) ?_
  rintro _ M1 ⟨rfl, hC1, hF1⟩
  have hM1 := hM.keep hF1
  refine x_aload_n dL_law_756 rfl ?_
  refine x_arg (k := 1) hX hi dL_law_757 dL_law_758 dL_law_759 rfl dL_law_760 dL_law_761 (by decide) ?_
  refine x_callV (n := 1) (m_broken hM1 hI.1) dL_law_762 (q := 34) (ci := 11) (by decide) rfl (by decide) rfl (al4 (tb 1323 (by decide +kernel) (by decide +kernel)) (tb 1324 (by decide +kernel) (by decide +kernel)) (tb 1325 (by decide +kernel) (by decide +kernel)) (tb 89 (by decide +kernel) (by decide +kernel))) (tb 1326 (by decide +kernel) (by decide +kernel)) (by decide +kernel) (by decide) (by decide) rfl rfl (Nat.le_of_ble_eq_true rfl) ?_
  rintro _ M2 ⟨rfl, hM2, hF2⟩
  refine x_icmp_eq 1377 dL_law_765 (fun _ => ?_) (fun h => absurd rfl h)
  exact next M2 _ (hC1.frc hF2) hM2 hI
set_option maxRecDepth 100000 in
set_option maxHeartbeats 4000000 in
theorem la_first {Γ : Gx} {Ω : Om} {ret : Option FieldType} {sb n i : Nat} {xs : Nat → Int32} (hX : Scr Γ Ω sb n xs) (hi : i + 7 ≤ n) (next : ∀ (M : Mem) (σ : Sg), IC M σ → IM M σ → SgI σ → X Γ Ω RL cL_law 4 12 ret 1377 [some (.ref sb), some (.ref (Ω.2.2 0)), some (.ref (Ω.2.2 34)), some (.int (nI i))] [] M) {M : Mem} {σ : Sg} (hC : IC M σ) (hM : IM M σ) (hI : SgI σ) : X Γ Ω RL cL_law 4 12 ret 770 [some (.ref sb), some (.ref (Ω.2.2 0)), some (.ref (Ω.2.2 34)), some (.int (nI i))] [] M := by
  refine x_aload_n dL_law_770 rfl ?_
  refine x_arg (k := 1) hX hi dL_law_771 dL_law_772 dL_law_773 rfl dL_law_774 dL_law_775 (by decide) ?_
  refine x_callV (n := 1) (c_first hC hI.1) dL_law_776 (q := 0) (ci := 10) (by decide) rfl (by decide) rfl (al4 (tb 728 (by decide +kernel) (by decide +kernel)) (tb 729 (by decide +kernel) (by decide +kernel)) (tb 730 (by decide +kernel) (by decide +kernel)) (tb 77 (by decide +kernel) (by decide +kernel))) (tb 731 (by decide +kernel) (by decide +kernel)) (by decide +kernel) (by decide) (by decide) rfl rfl (Nat.le_of_ble_eq_true rfl) ?_
  rintro _ M1 ⟨rfl, hC1, hF1⟩
  have hM1 := hM.keep hF1
  refine x_aload_n dL_law_779 rfl ?_
  refine x_arg (k := 1) hX hi dL_law_780 dL_law_781 dL_law_782 rfl dL_law_783 dL_law_784 (by decide) ?_
  refine x_callV (n := 1) (m_first hM1 hI.1) dL_law_785 (q := 34) (ci := 11) (by decide) rfl (by decide) rfl (al4 (tb 1327 (by decide +kernel) (by decide +kernel)) (tb 1328 (by decide +kernel) (by decide +kernel)) (tb 1329 (by decide +kernel) (by decide +kernel)) (tb 89 (by decide +kernel) (by decide +kernel))) (tb 1330 (by decide +kernel) (by decide +kernel)) (by decide +kernel) (by decide) (by decide) rfl rfl (Nat.le_of_ble_eq_true rfl) ?_
  rintro _ M2 ⟨rfl, hM2, hF2⟩
  refine x_icmp_eq 1377 dL_law_788 (fun _ => ?_) (fun h => absurd rfl h)
  exact next M2 _ (hC1.frc hF2) hM2 hI
set_option maxRecDepth 100000 in
set_option maxHeartbeats 4000000 in
theorem la_falls {Γ : Gx} {Ω : Om} {ret : Option FieldType} {sb n i : Nat} {xs : Nat → Int32} (hX : Scr Γ Ω sb n xs) (hi : i + 7 ≤ n) (next : ∀ (M : Mem) (σ : Sg), IC M σ → IM M σ → SgI σ → X Γ Ω RL cL_law 4 12 ret 1377 [some (.ref sb), some (.ref (Ω.2.2 0)), some (.ref (Ω.2.2 34)), some (.int (nI i))] [] M) {M : Mem} {σ : Sg} (hC : IC M σ) (hM : IM M σ) (hI : SgI σ) : X Γ Ω RL cL_law 4 12 ret 793 [some (.ref sb), some (.ref (Ω.2.2 0)), some (.ref (Ω.2.2 34)), some (.int (nI i))] [] M := by
  refine x_aload_n dL_law_793 rfl ?_
  refine x_arg (k := 1) hX hi dL_law_794 dL_law_795 dL_law_796 rfl dL_law_797 dL_law_798 (by decide) ?_
  refine x_callV (n := 1) (c_falls hC hI.1) dL_law_799 (q := 0) (ci := 10) (by decide) rfl (by decide) rfl (al4 (tb 746 (by decide +kernel) (by decide +kernel)) (tb 747 (by decide +kernel) (by decide +kernel)) (tb 748 (by decide +kernel) (by decide +kernel)) (tb 77 (by decide +kernel) (by decide +kernel))) (tb 749 (by decide +kernel) (by decide +kernel)) (by decide +kernel) (by decide) (by decide) rfl rfl (Nat.le_of_ble_eq_true rfl) ?_
  rintro _ M1 ⟨rfl, hC1, hF1⟩
  have hM1 := hM.keep hF1
  refine x_aload_n dL_law_802 rfl ?_
  refine x_arg (k := 1) hX hi dL_law_803 dL_law_804 dL_law_805 rfl dL_law_806 dL_law_807 (by decide) ?_
  refine x_callV (n := 1) (m_falls hM1 hI.1) dL_law_808 (q := 34) (ci := 11) (by decide) rfl (by decide) rfl (al4 (tb 1334 (by decide +kernel) (by decide +kernel)) (tb 1335 (by decide +kernel) (by decide +kernel)) (tb 1336 (by decide +kernel) (by decide +kernel)) (tb 89 (by decide +kernel) (by decide +kernel))) (tb 1337 (by decide +kernel) (by decide +kernel)) (by decide +kernel) (by decide) (by decide) rfl rfl (Nat.le_of_ble_eq_true rfl) ?_
  rintro _ M2 ⟨rfl, hM2, hF2⟩
  refine x_icmp_eq 1377 dL_law_811 (fun _ => ?_) (fun h => absurd rfl h)
  exact next M2 _ (hC1.frc hF2) hM2 hI
set_option maxRecDepth 100000 in
set_option maxHeartbeats 4000000 in
theorem la_mends {Γ : Gx} {Ω : Om} {ret : Option FieldType} {sb n i : Nat} {xs : Nat → Int32} (hX : Scr Γ Ω sb n xs) (hi : i + 7 ≤ n) (next : ∀ (M : Mem) (σ : Sg), IC M σ → IM M σ → SgI σ → X Γ Ω RL cL_law 4 12 ret 1377 [some (.ref sb), some (.ref (Ω.2.2 0)), some (.ref (Ω.2.2 34)), some (.int (nI i))] [] M) {M : Mem} {σ : Sg} (hC : IC M σ) (hM : IM M σ) (hI : SgI σ) : X Γ Ω RL cL_law 4 12 ret 816 [some (.ref sb), some (.ref (Ω.2.2 0)), some (.ref (Ω.2.2 34)), some (.int (nI i))] [] M := by
  refine x_aload_n dL_law_816 rfl ?_
  refine x_arg (k := 1) hX hi dL_law_817 dL_law_818 dL_law_819 rfl dL_law_820 dL_law_821 (by decide) ?_
  refine x_arg (k := 2) hX hi dL_law_822 dL_law_823 dL_law_824 rfl dL_law_825 dL_law_826 (by decide) ?_
  refine x_arg (k := 3) hX hi dL_law_827 dL_law_828 dL_law_829 rfl dL_law_830 dL_law_831 (by decide) ?_
  refine x_callV (n := 3) (c_mends hC hI.1) dL_law_832 (q := 0) (ci := 10) (by decide) rfl (by decide) rfl (al4 (tb 754 (by decide +kernel) (by decide +kernel)) (tb 755 (by decide +kernel) (by decide +kernel)) (tb 756 (by decide +kernel) (by decide +kernel)) (tb 77 (by decide +kernel) (by decide +kernel))) (tb 757 (by decide +kernel) (by decide +kernel)) (by decide +kernel) (by decide) (by decide) rfl rfl (Nat.le_of_ble_eq_true rfl) ?_
  rintro _ M1 ⟨rfl, hC1, hF1⟩
  have hM1 := hM.keep hF1
  refine x_aload_n dL_law_835 rfl ?_
  refine x_arg (k := 1) hX hi dL_law_836 dL_law_837 dL_law_838 rfl dL_law_839 dL_law_840 (by decide) ?_
  refine x_arg (k := 2) hX hi dL_law_841 dL_law_842 dL_law_843 rfl dL_law_844 dL_law_845 (by decide) ?_
  refine x_arg (k := 3) hX hi dL_law_846 dL_law_847 dL_law_848 rfl dL_law_849 dL_law_850 (by decide) ?_
  refine x_callV (n := 3) (m_mends hM1 hI.1) dL_law_851 (q := 34) (ci := 11) (by decide) rfl (by decide) rfl (al4 (tb 1342 (by decide +kernel) (by decide +kernel)) (tb 1343 (by decide +kernel) (by decide +kernel)) (tb 1344 (by decide +kernel) (by decide +kernel)) (tb 89 (by decide +kernel) (by decide +kernel))) (tb 1345 (by decide +kernel) (by decide +kernel)) (by decide +kernel) (by decide) (by decide) rfl rfl (Nat.le_of_ble_eq_true rfl) ?_
  rintro _ M2 ⟨rfl, hM2, hF2⟩
  refine x_icmp_eq 1377 dL_law_854 (fun _ => ?_) (fun h => absurd rfl h)
  exact next M2 _ (hC1.frc hF2) hM2 hI
set_option maxRecDepth 100000 in
set_option maxHeartbeats 4000000 in
theorem la_holds {Γ : Gx} {Ω : Om} {ret : Option FieldType} {sb n i : Nat} {xs : Nat → Int32} (hX : Scr Γ Ω sb n xs) (hi : i + 7 ≤ n) (next : ∀ (M : Mem) (σ : Sg), IC M σ → IM M σ → SgI σ → X Γ Ω RL cL_law 4 12 ret 1377 [some (.ref sb), some (.ref (Ω.2.2 0)), some (.ref (Ω.2.2 34)), some (.int (nI i))] [] M) {M : Mem} {σ : Sg} (hC : IC M σ) (hM : IM M σ) (hI : SgI σ) : X Γ Ω RL cL_law 4 12 ret 859 [some (.ref sb), some (.ref (Ω.2.2 0)), some (.ref (Ω.2.2 34)), some (.int (nI i))] [] M := by
  refine x_aload_n dL_law_859 rfl ?_
  refine x_arg (k := 1) hX hi dL_law_860 dL_law_861 dL_law_862 rfl dL_law_863 dL_law_864 (by decide) ?_
  refine x_arg (k := 2) hX hi dL_law_865 dL_law_866 dL_law_867 rfl dL_law_868 dL_law_869 (by decide) ?_
  refine x_arg (k := 3) hX hi dL_law_870 dL_law_871 dL_law_872 rfl dL_law_873 dL_law_874 (by decide) ?_
  refine x_callV (n := 3) (c_holds hC hI.1) dL_law_875 (q := 0) (ci := 10) (by decide) rfl (by decide) rfl (al4 (tb 775 (by decide +kernel) (by decide +kernel)) (tb 776 (by decide +kernel) (by decide +kernel)) (tb 777 (by decide +kernel) (by decide +kernel)) (tb 77 (by decide +kernel) (by decide +kernel))) (tb 778 (by decide +kernel) (by decide +kernel)) (by decide +kernel) (by decide) (by decide) rfl rfl (Nat.le_of_ble_eq_true rfl) ?_
  rintro _ M1 ⟨rfl, hC1, hF1⟩
  have hM1 := hM.keep hF1
  refine x_aload_n dL_law_878 rfl ?_
  refine x_arg (k := 1) hX hi dL_law_879 dL_law_880 dL_law_881 rfl dL_law_882 dL_law_883 (by decide) ?_
  refine x_arg (k := 2) hX hi dL_law_884 dL_law_885 dL_law_886 rfl dL_law_887 dL_law_888 (by decide) ?_
  refine x_arg (k := 3) hX hi dL_law_889 dL_law_890 dL_law_891 rfl dL_law_892 dL_law_893 (by decide) ?_
  refine x_callV (n := 3) (m_holds hM1 hI.1) dL_law_894 (q := 34) (ci := 11) (by decide) rfl (by decide) rfl (al4 (tb 1353 (by decide +kernel) (by decide +kernel)) (tb 1354 (by decide +kernel) (by decide +kernel)) (tb 1355 (by decide +kernel) (by decide +kernel)) (tb 89 (by decide +kernel) (by decide +kernel))) (tb 1356 (by decide +kernel) (by decide +kernel)) (by decide +kernel) (by decide) (by decide) rfl rfl (Nat.le_of_ble_eq_true rfl) ?_
  rintro _ M2 ⟨rfl, hM2, hF2⟩
  refine x_icmp_eq 1377 dL_law_897 (fun _ => ?_) (fun h => absurd rfl h)
  exact next M2 _ (hC1.frc hF2) hM2 hI
set_option maxRecDepth 100000 in
set_option maxHeartbeats 4000000 in
theorem la_line {Γ : Gx} {Ω : Om} {ret : Option FieldType} {sb n i : Nat} {xs : Nat → Int32} (hX : Scr Γ Ω sb n xs) (hi : i + 7 ≤ n) (next : ∀ (M : Mem) (σ : Sg), IC M σ → IM M σ → SgI σ → X Γ Ω RL cL_law 4 12 ret 1377 [some (.ref sb), some (.ref (Ω.2.2 0)), some (.ref (Ω.2.2 34)), some (.int (nI i))] [] M) {M : Mem} {σ : Sg} (hC : IC M σ) (hM : IM M σ) (hI : SgI σ) : X Γ Ω RL cL_law 4 12 ret 902 [some (.ref sb), some (.ref (Ω.2.2 0)), some (.ref (Ω.2.2 34)), some (.int (nI i))] [] M := by
  refine x_aload_n dL_law_902 rfl ?_
  refine x_arg (k := 1) hX hi dL_law_903 dL_law_904 dL_law_905 rfl dL_law_906 dL_law_907 (by decide) ?_
  refine x_arg (k := 2) hX hi dL_law_908 dL_law_909 dL_law_910 rfl dL_law_911 dL_law_912 (by decide) ?_
  refine x_callV (n := 2) (c_line hC hI.1) dL_law_913 (q := 0) (ci := 10) (by decide) rfl (by decide) rfl (al4 (tb 783 (by decide +kernel) (by decide +kernel)) (tb 784 (by decide +kernel) (by decide +kernel)) (tb 785 (by decide +kernel) (by decide +kernel)) (tb 77 (by decide +kernel) (by decide +kernel))) (tb 786 (by decide +kernel) (by decide +kernel)) (by decide +kernel) (by decide) (by decide) rfl rfl (Nat.le_of_ble_eq_true rfl) ?_
  rintro _ M1 ⟨rfl, hC1, hF1⟩
  have hM1 := hM.keep hF1
  refine x_aload_n dL_law_916 rfl ?_
  refine x_arg (k := 1) hX hi dL_law_917 dL_law_918 dL_law_919 rfl dL_law_920 dL_law_921 (by decide) ?_
  refine x_arg (k := 2) hX hi dL_law_922 dL_law_923 dL_law_924 rfl dL_law_925 dL_law_926 (by decide) ?_
  refine x_callV (n := 2) (m_line hM1 hI.1) dL_law_927 (q := 34) (ci := 11) (by decide) rfl (by decide) rfl (al4 (tb 1357 (by decide +kernel) (by decide +kernel)) (tb 1358 (by decide +kernel) (by decide +kernel)) (tb 1359 (by decide +kernel) (by decide +kernel)) (tb 89 (by decide +kernel) (by decide +kernel))) (tb 1360 (by decide +kernel) (by decide +kernel)) (by decide +kernel) (by decide) (by decide) rfl rfl (Nat.le_of_ble_eq_true rfl) ?_
  rintro _ M2 ⟨rfl, hM2, hF2⟩
  refine x_icmp_eq 1377 dL_law_930 (fun _ => ?_) (fun h => absurd rfl h)
  exact next M2 _ (hC1.frc hF2) hM2 hI
set_option maxRecDepth 100000 in
set_option maxHeartbeats 4000000 in
theorem la_heavy {Γ : Gx} {Ω : Om} {ret : Option FieldType} {sb n i : Nat} {xs : Nat → Int32} (hX : Scr Γ Ω sb n xs) (hi : i + 7 ≤ n) (next : ∀ (M : Mem) (σ : Sg), IC M σ → IM M σ → SgI σ → X Γ Ω RL cL_law 4 12 ret 1377 [some (.ref sb), some (.ref (Ω.2.2 0)), some (.ref (Ω.2.2 34)), some (.int (nI i))] [] M) {M : Mem} {σ : Sg} (hC : IC M σ) (hM : IM M σ) (hI : SgI σ) : X Γ Ω RL cL_law 4 12 ret 935 [some (.ref sb), some (.ref (Ω.2.2 0)), some (.ref (Ω.2.2 34)), some (.int (nI i))] [] M := by
  refine x_aload_n dL_law_935 rfl ?_
  refine x_arg (k := 1) hX hi dL_law_936 dL_law_937 dL_law_938 rfl dL_law_939 dL_law_940 (by decide) ?_
  refine x_callV (n := 1) (c_heavy hC hI.1) dL_law_941 (q := 0) (ci := 10) (by decide) rfl (by decide) rfl (al4 (tb 821 (by decide +kernel) (by decide +kernel)) (tb 822 (by decide +kernel) (by decide +kernel)) (tb 823 (by decide +kernel) (by decide +kernel)) (tb 77 (by decide +kernel) (by decide +kernel))) (tb 824 (by decide +kernel) (by decide +kernel)) (by decide +kernel) (by decide) (by decide) rfl rfl (Nat.le_of_ble_eq_true rfl) ?_
  rintro _ M1 ⟨rfl, hC1, hF1⟩
  have hM1 := hM.keep hF1
  refine x_aload_n dL_law_944 rfl ?_
  refine x_arg (k := 1) hX hi dL_law_945 dL_law_946 dL_law_947 rfl dL_law_948 dL_law_949 (by decide) ?_
  refine x_callV (n := 1) (m_heavy hM1 hI.1) dL_law_950 (q := 34) (ci := 11) (by decide) rfl (by decide) rfl (al4 (tb 1369 (by decide +kernel) (by decide +kernel)) (tb 1370 (by decide +kernel) (by decide +kernel)) (tb 1371 (by decide +kernel) (by decide +kernel)) (tb 89 (by decide +kernel) (by decide +kernel))) (tb 1372 (by decide +kernel) (by decide +kernel)) (by decide +kernel) (by decide) (by decide) rfl rfl (Nat.le_of_ble_eq_true rfl) ?_
  rintro _ M2 ⟨rfl, hM2, hF2⟩
  refine x_icmp_eq 1377 dL_law_953 (fun _ => ?_) (fun h => absurd rfl h)
  exact next M2 _ (hC1.frc hF2) hM2 hI
set_option maxRecDepth 100000 in
set_option maxHeartbeats 4000000 in
theorem la_who {Γ : Gx} {Ω : Om} {ret : Option FieldType} {sb n i : Nat} {xs : Nat → Int32} (hX : Scr Γ Ω sb n xs) (hi : i + 7 ≤ n) (next : ∀ (M : Mem) (σ : Sg), IC M σ → IM M σ → SgI σ → X Γ Ω RL cL_law 4 12 ret 1377 [some (.ref sb), some (.ref (Ω.2.2 0)), some (.ref (Ω.2.2 34)), some (.int (nI i))] [] M) {M : Mem} {σ : Sg} (hC : IC M σ) (hM : IM M σ) (hI : SgI σ) : X Γ Ω RL cL_law 4 12 ret 958 [some (.ref sb), some (.ref (Ω.2.2 0)), some (.ref (Ω.2.2 34)), some (.int (nI i))] [] M := by
  refine x_aload_n dL_law_958 rfl ?_
  refine x_arg (k := 1) hX hi dL_law_959 dL_law_960 dL_law_961 rfl dL_law_962 dL_law_963 (by decide) ?_
  refine x_arg (k := 2) hX hi dL_law_964 dL_law_965 dL_law_966 rfl dL_law_967 dL_law_968 (by decide) ?_
  refine x_arg (k := 3) hX hi dL_law_969 dL_law_970 dL_law_971 rfl dL_law_972 dL_law_973 (by decide) ?_
  refine x_arg (k := 4) hX hi dL_law_974 dL_law_975 dL_law_976 rfl dL_law_977 dL_law_978 (by decide) ?_
  refine x_arg (k := 5) hX hi dL_law_979 dL_law_980 dL_law_981 rfl dL_law_982 dL_law_983 (by decide) ?_
  refine x_arg6 hX hi dL_law_984 dL_law_985 dL_law_986 dL_law_988 dL_law_989 ?_
  refine x_callV (n := 6) (c_who hC hI.1) dL_law_990 (q := 0) (ci := 10) (by decide) rfl (by decide) rfl (al4 (tb 830 (by decide +kernel) (by decide +kernel)) (tb 831 (by decide +kernel) (by decide +kernel)) (tb 832 (by decide +kernel) (by decide +kernel)) (tb 77 (by decide +kernel) (by decide +kernel))) (tb 833 (by decide +kernel) (by decide +kernel)) (by decide +kernel) (by decide) (by decide) rfl rfl (Nat.le_of_ble_eq_true rfl) ?_
  rintro _ M1 ⟨rfl, hC1, hF1⟩
  have hM1 := hM.keep hF1
  refine x_aload_n dL_law_993 rfl ?_
  refine x_arg (k := 1) hX hi dL_law_994 dL_law_995 dL_law_996 rfl dL_law_997 dL_law_998 (by decide) ?_
  refine x_arg (k := 2) hX hi dL_law_999 dL_law_1000 dL_law_1001 rfl dL_law_1002 dL_law_1003 (by decide) ?_
  refine x_arg (k := 3) hX hi dL_law_1004 dL_law_1005 dL_law_1006 rfl dL_law_1007 dL_law_1008 (by decide) ?_
  refine x_arg (k := 4) hX hi dL_law_1009 dL_law_1010 dL_law_1011 rfl dL_law_1012 dL_law_1013 (by decide) ?_
  refine x_arg (k := 5) hX hi dL_law_1014 dL_law_1015 dL_law_1016 rfl dL_law_1017 dL_law_1018 (by decide) ?_
  refine x_arg6 hX hi dL_law_1019 dL_law_1020 dL_law_1021 dL_law_1023 dL_law_1024 ?_
  refine x_callV (n := 6) (m_who hM1 hI.1) dL_law_1025 (q := 34) (ci := 11) (by decide) rfl (by decide) rfl (al4 (tb 1373 (by decide +kernel) (by decide +kernel)) (tb 1374 (by decide +kernel) (by decide +kernel)) (tb 1375 (by decide +kernel) (by decide +kernel)) (tb 89 (by decide +kernel) (by decide +kernel))) (tb 1376 (by decide +kernel) (by decide +kernel)) (by decide +kernel) (by decide) (by decide) rfl rfl (Nat.le_of_ble_eq_true rfl) ?_
  rintro _ M2 ⟨rfl, hM2, hF2⟩
  refine x_icmp_eq 1377 dL_law_1028 (fun _ => ?_) (fun h => absurd rfl h)
  exact next M2 _ (hC1.frc hF2) hM2 (I_who hI _ _ _ _ _ _)
set_option maxRecDepth 100000 in
set_option maxHeartbeats 4000000 in
theorem la_rotten {Γ : Gx} {Ω : Om} {ret : Option FieldType} {sb n i : Nat} {xs : Nat → Int32} (hX : Scr Γ Ω sb n xs) (hi : i + 7 ≤ n) (next : ∀ (M : Mem) (σ : Sg), IC M σ → IM M σ → SgI σ → X Γ Ω RL cL_law 4 12 ret 1377 [some (.ref sb), some (.ref (Ω.2.2 0)), some (.ref (Ω.2.2 34)), some (.int (nI i))] [] M) {M : Mem} {σ : Sg} (hC : IC M σ) (hM : IM M σ) (hI : SgI σ) : X Γ Ω RL cL_law 4 12 ret 1033 [some (.ref sb), some (.ref (Ω.2.2 0)), some (.ref (Ω.2.2 34)), some (.int (nI i))] [] M := by
  refine x_aload_n dL_law_1033 rfl ?_
  refine x_arg (k := 1) hX hi dL_law_1034 dL_law_1035 dL_law_1036 rfl dL_law_1037 dL_law_1038 (by decide) ?_
  refine x_arg (k := 2) hX hi dL_law_1039 dL_law_1040 dL_law_1041 rfl dL_law_1042 dL_law_1043 (by decide) ?_
  refine x_arg (k := 3) hX hi dL_law_1044 dL_law_1045 dL_law_1046 rfl dL_law_1047 dL_law_1048 (by decide) ?_
  refine x_arg (k := 4) hX hi dL_law_1049 dL_law_1050 dL_law_1051 rfl dL_law_1052 dL_law_1053 (by decide) ?_
  refine x_callV (n := 4) (c_rotten hC hI.1) dL_law_1054 (q := 0) (ci := 10) (by decide) rfl (by decide) rfl (al4 (tb 858 (by decide +kernel) (by decide +kernel)) (tb 859 (by decide +kernel) (by decide +kernel)) (tb 860 (by decide +kernel) (by decide +kernel)) (tb 77 (by decide +kernel) (by decide +kernel))) (tb 861 (by decide +kernel) (by decide +kernel)) (by decide +kernel) (by decide) (by decide) rfl rfl (Nat.le_of_ble_eq_true rfl) ?_
  rintro _ M1 ⟨rfl, hC1, hF1⟩
  have hM1 := hM.keep hF1
  refine x_aload_n dL_law_1057 rfl ?_
  refine x_arg (k := 1) hX hi dL_law_1058 dL_law_1059 dL_law_1060 rfl dL_law_1061 dL_law_1062 (by decide) ?_
  refine x_arg (k := 2) hX hi dL_law_1063 dL_law_1064 dL_law_1065 rfl dL_law_1066 dL_law_1067 (by decide) ?_
  refine x_arg (k := 3) hX hi dL_law_1068 dL_law_1069 dL_law_1070 rfl dL_law_1071 dL_law_1072 (by decide) ?_
  refine x_arg (k := 4) hX hi dL_law_1073 dL_law_1074 dL_law_1075 rfl dL_law_1076 dL_law_1077 (by decide) ?_
  refine x_callV (n := 4) (m_rotten hM1 hI.1) dL_law_1078 (q := 34) (ci := 11) (by decide) rfl (by decide) rfl (al4 (tb 1386 (by decide +kernel) (by decide +kernel)) (tb 1387 (by decide +kernel) (by decide +kernel)) (tb 1388 (by decide +kernel) (by decide +kernel)) (tb 89 (by decide +kernel) (by decide +kernel))) (tb 1389 (by decide +kernel) (by decide +kernel)) (by decide +kernel) (by decide) (by decide) rfl rfl (Nat.le_of_ble_eq_true rfl) ?_
  rintro _ M2 ⟨rfl, hM2, hF2⟩
  refine x_icmp_eq 1377 dL_law_1081 (fun _ => ?_) (fun h => absurd rfl h)
  exact next M2 _ (hC1.frc hF2) hM2 (I_rotten hI _ _ _ _)
set_option maxRecDepth 100000 in
set_option maxHeartbeats 4000000 in
theorem la_risk {Γ : Gx} {Ω : Om} {ret : Option FieldType} {sb n i : Nat} {xs : Nat → Int32} (hX : Scr Γ Ω sb n xs) (hi : i + 7 ≤ n) (next : ∀ (M : Mem) (σ : Sg), IC M σ → IM M σ → SgI σ → X Γ Ω RL cL_law 4 12 ret 1377 [some (.ref sb), some (.ref (Ω.2.2 0)), some (.ref (Ω.2.2 34)), some (.int (nI i))] [] M) {M : Mem} {σ : Sg} (hC : IC M σ) (hM : IM M σ) (hI : SgI σ) : X Γ Ω RL cL_law 4 12 ret 1086 [some (.ref sb), some (.ref (Ω.2.2 0)), some (.ref (Ω.2.2 34)), some (.int (nI i))] [] M := by
  refine x_aload_n dL_law_1086 rfl ?_
  refine x_arg (k := 1) hX hi dL_law_1087 dL_law_1088 dL_law_1089 rfl dL_law_1090 dL_law_1091 (by decide) ?_
  refine x_arg (k := 2) hX hi dL_law_1092 dL_law_1093 dL_law_1094 rfl dL_law_1095 dL_law_1096 (by decide) ?_
  refine x_arg (k := 3) hX hi dL_law_1097 dL_law_1098 dL_law_1099 rfl dL_law_1100 dL_law_1101 (by decide) ?_
  refine x_arg (k := 4) hX hi dL_law_1102 dL_law_1103 dL_law_1104 rfl dL_law_1105 dL_law_1106 (by decide) ?_
  refine x_callV (n := 4) (c_risk hC hI.1) dL_law_1107 (q := 0) (ci := 10) (by decide) rfl (by decide) rfl (al4 (tb 868 (by decide +kernel) (by decide +kernel)) (tb 869 (by decide +kernel) (by decide +kernel)) (tb 870 (by decide +kernel) (by decide +kernel)) (tb 77 (by decide +kernel) (by decide +kernel))) (tb 871 (by decide +kernel) (by decide +kernel)) (by decide +kernel) (by decide) (by decide) rfl rfl (Nat.le_of_ble_eq_true rfl) ?_
  rintro _ M1 ⟨rfl, hC1, hF1⟩
  have hM1 := hM.keep hF1
  refine x_aload_n dL_law_1110 rfl ?_
  refine x_arg (k := 1) hX hi dL_law_1111 dL_law_1112 dL_law_1113 rfl dL_law_1114 dL_law_1115 (by decide) ?_
  refine x_arg (k := 2) hX hi dL_law_1116 dL_law_1117 dL_law_1118 rfl dL_law_1119 dL_law_1120 (by decide) ?_
  refine x_arg (k := 3) hX hi dL_law_1121 dL_law_1122 dL_law_1123 rfl dL_law_1124 dL_law_1125 (by decide) ?_
  refine x_arg (k := 4) hX hi dL_law_1126 dL_law_1127 dL_law_1128 rfl dL_law_1129 dL_law_1130 (by decide) ?_
  refine x_callV (n := 4) (m_risk hM1 hI.1) dL_law_1131 (q := 34) (ci := 11) (by decide) rfl (by decide) rfl (al4 (tb 1390 (by decide +kernel) (by decide +kernel)) (tb 1391 (by decide +kernel) (by decide +kernel)) (tb 1392 (by decide +kernel) (by decide +kernel)) (tb 89 (by decide +kernel) (by decide +kernel))) (tb 1393 (by decide +kernel) (by decide +kernel)) (by decide +kernel) (by decide) (by decide) rfl rfl (Nat.le_of_ble_eq_true rfl) ?_
  rintro _ M2 ⟨rfl, hM2, hF2⟩
  refine x_lcmp dL_law_1134 ?_
  refine x_if_eq 1377 dL_law_1135 (fun _ => ?_) (fun h => absurd (cmp_self _) h)
  exact next M2 _ (hC1.frc hF2) hM2 hI
set_option maxRecDepth 100000 in
set_option maxHeartbeats 4000000 in
theorem la_drawn {Γ : Gx} {Ω : Om} {ret : Option FieldType} {sb n i : Nat} {xs : Nat → Int32} (hX : Scr Γ Ω sb n xs) (hi : i + 7 ≤ n) (next : ∀ (M : Mem) (σ : Sg), IC M σ → IM M σ → SgI σ → X Γ Ω RL cL_law 4 12 ret 1377 [some (.ref sb), some (.ref (Ω.2.2 0)), some (.ref (Ω.2.2 34)), some (.int (nI i))] [] M) {M : Mem} {σ : Sg} (hC : IC M σ) (hM : IM M σ) (hI : SgI σ) : X Γ Ω RL cL_law 4 12 ret 1140 [some (.ref sb), some (.ref (Ω.2.2 0)), some (.ref (Ω.2.2 34)), some (.int (nI i))] [] M := by
  refine x_aload_n dL_law_1140 rfl ?_
  refine x_arg (k := 1) hX hi dL_law_1141 dL_law_1142 dL_law_1143 rfl dL_law_1144 dL_law_1145 (by decide) ?_
  refine x_arg (k := 2) hX hi dL_law_1146 dL_law_1147 dL_law_1148 rfl dL_law_1149 dL_law_1150 (by decide) ?_
  refine x_arg (k := 3) hX hi dL_law_1151 dL_law_1152 dL_law_1153 rfl dL_law_1154 dL_law_1155 (by decide) ?_
  refine x_callV (n := 3) (c_drawn hC hI.1) dL_law_1156 (q := 0) (ci := 10) (by decide) rfl (by decide) rfl (al4 (tb 893 (by decide +kernel) (by decide +kernel)) (tb 894 (by decide +kernel) (by decide +kernel)) (tb 895 (by decide +kernel) (by decide +kernel)) (tb 77 (by decide +kernel) (by decide +kernel))) (tb 896 (by decide +kernel) (by decide +kernel)) (by decide +kernel) (by decide) (by decide) rfl rfl (Nat.le_of_ble_eq_true rfl) ?_
  rintro _ M1 ⟨rfl, hC1, hF1⟩
  have hM1 := hM.keep hF1
  refine x_aload_n dL_law_1159 rfl ?_
  refine x_arg (k := 1) hX hi dL_law_1160 dL_law_1161 dL_law_1162 rfl dL_law_1163 dL_law_1164 (by decide) ?_
  refine x_arg (k := 2) hX hi dL_law_1165 dL_law_1166 dL_law_1167 rfl dL_law_1168 dL_law_1169 (by decide) ?_
  refine x_arg (k := 3) hX hi dL_law_1170 dL_law_1171 dL_law_1172 rfl dL_law_1173 dL_law_1174 (by decide) ?_
  refine x_callV (n := 3) (m_drawn hM1 hI.1) dL_law_1175 (q := 34) (ci := 11) (by decide) rfl (by decide) rfl (al4 (tb 1396 (by decide +kernel) (by decide +kernel)) (tb 1397 (by decide +kernel) (by decide +kernel)) (tb 1398 (by decide +kernel) (by decide +kernel)) (tb 89 (by decide +kernel) (by decide +kernel))) (tb 1399 (by decide +kernel) (by decide +kernel)) (by decide +kernel) (by decide) (by decide) rfl rfl (Nat.le_of_ble_eq_true rfl) ?_
  rintro _ M2 ⟨rfl, hM2, hF2⟩
  refine x_icmp_eq 1377 dL_law_1178 (fun _ => ?_) (fun h => absurd rfl h)
  exact next M2 _ (hC1.frc hF2) hM2 hI
set_option maxRecDepth 100000 in
set_option maxHeartbeats 4000000 in
theorem la_image {Γ : Gx} {Ω : Om} {ret : Option FieldType} {sb n i : Nat} {xs : Nat → Int32} (hX : Scr Γ Ω sb n xs) (hi : i + 7 ≤ n) (next : ∀ (M : Mem) (σ : Sg), IC M σ → IM M σ → SgI σ → X Γ Ω RL cL_law 4 12 ret 1377 [some (.ref sb), some (.ref (Ω.2.2 0)), some (.ref (Ω.2.2 34)), some (.int (nI i))] [] M) {M : Mem} {σ : Sg} (hC : IC M σ) (hM : IM M σ) (hI : SgI σ) : X Γ Ω RL cL_law 4 12 ret 1183 [some (.ref sb), some (.ref (Ω.2.2 0)), some (.ref (Ω.2.2 34)), some (.int (nI i))] [] M := by
  refine x_aload_n dL_law_1183 rfl ?_
  refine x_arg (k := 1) hX hi dL_law_1184 dL_law_1185 dL_law_1186 rfl dL_law_1187 dL_law_1188 (by decide) ?_
  refine x_callV (n := 1) (c_image hC hI.1) dL_law_1189 (q := 0) (ci := 10) (by decide) rfl (by decide) rfl (al4 (tb 911 (by decide +kernel) (by decide +kernel)) (tb 912 (by decide +kernel) (by decide +kernel)) (tb 913 (by decide +kernel) (by decide +kernel)) (tb 77 (by decide +kernel) (by decide +kernel))) (tb 914 (by decide +kernel) (by decide +kernel)) (by decide +kernel) (by decide) (by decide) rfl rfl (Nat.le_of_ble_eq_true rfl) ?_
  rintro _ M1 ⟨rfl, hC1, hF1⟩
  have hM1 := hM.keep hF1
  refine x_aload_n dL_law_1192 rfl ?_
  refine x_arg (k := 1) hX hi dL_law_1193 dL_law_1194 dL_law_1195 rfl dL_law_1196 dL_law_1197 (by decide) ?_
  refine x_callV (n := 1) (m_image hM1 hI.1) dL_law_1198 (q := 34) (ci := 11) (by decide) rfl (by decide) rfl (al4 (tb 1404 (by decide +kernel) (by decide +kernel)) (tb 1405 (by decide +kernel) (by decide +kernel)) (tb 1406 (by decide +kernel) (by decide +kernel)) (tb 89 (by decide +kernel) (by decide +kernel))) (tb 1407 (by decide +kernel) (by decide +kernel)) (by decide +kernel) (by decide) (by decide) rfl rfl (Nat.le_of_ble_eq_true rfl) ?_
  rintro _ M2 ⟨rfl, hM2, hF2⟩
  refine x_icmp_eq 1377 dL_law_1201 (fun _ => ?_) (fun h => absurd rfl h)
  exact next M2 _ (hC1.frc hF2) hM2 (I_image hI _)
set_option maxRecDepth 100000 in
set_option maxHeartbeats 4000000 in
theorem la_restore {Γ : Gx} {Ω : Om} {ret : Option FieldType} {sb n i : Nat} {xs : Nat → Int32} (hX : Scr Γ Ω sb n xs) (hi : i + 7 ≤ n) (next : ∀ (M : Mem) (σ : Sg), IC M σ → IM M σ → SgI σ → X Γ Ω RL cL_law 4 12 ret 1377 [some (.ref sb), some (.ref (Ω.2.2 0)), some (.ref (Ω.2.2 34)), some (.int (nI i))] [] M) {M : Mem} {σ : Sg} (hC : IC M σ) (hM : IM M σ) (hI : SgI σ) : X Γ Ω RL cL_law 4 12 ret 1206 [some (.ref sb), some (.ref (Ω.2.2 0)), some (.ref (Ω.2.2 34)), some (.int (nI i))] [] M := by
  refine x_aload_n dL_law_1206 rfl ?_
  refine x_arg (k := 1) hX hi dL_law_1207 dL_law_1208 dL_law_1209 rfl dL_law_1210 dL_law_1211 (by decide) ?_
  refine x_callV (n := 1) (c_restore hC hI.1) dL_law_1212 (q := 0) (ci := 10) (by decide) rfl (by decide) rfl (al4 (tb 915 (by decide +kernel) (by decide +kernel)) (tb 916 (by decide +kernel) (by decide +kernel)) (tb 917 (by decide +kernel) (by decide +kernel)) (tb 77 (by decide +kernel) (by decide +kernel))) (tb 918 (by decide +kernel) (by decide +kernel)) (by decide +kernel) (by decide) (by decide) rfl rfl (Nat.le_of_ble_eq_true rfl) ?_
  rintro _ M1 ⟨rfl, hC1, hF1⟩
  have hM1 := hM.keep hF1
  refine x_aload_n dL_law_1215 rfl ?_
  refine x_arg (k := 1) hX hi dL_law_1216 dL_law_1217 dL_law_1218 rfl dL_law_1219 dL_law_1220 (by decide) ?_
  refine x_callV (n := 1) (m_restore hM1 hI.1 hI.2) dL_law_1221 (q := 34) (ci := 11) (by decide) rfl (by decide) rfl (al4 (tb 1408 (by decide +kernel) (by decide +kernel)) (tb 1409 (by decide +kernel) (by decide +kernel)) (tb 1410 (by decide +kernel) (by decide +kernel)) (tb 89 (by decide +kernel) (by decide +kernel))) (tb 1411 (by decide +kernel) (by decide +kernel)) (by decide +kernel) (by decide) (by decide) rfl rfl (Nat.le_of_ble_eq_true rfl) ?_
  rintro _ M2 ⟨rfl, hM2, hF2⟩
  refine x_icmp_eq 1377 dL_law_1224 (fun _ => ?_) (fun h => absurd rfl h)
  exact next M2 _ (hC1.frc hF2) hM2 (I_restore hI _)
set_option maxRecDepth 100000 in
set_option maxHeartbeats 4000000 in
theorem la_kind {Γ : Gx} {Ω : Om} {ret : Option FieldType} {sb n i : Nat} {xs : Nat → Int32} (hX : Scr Γ Ω sb n xs) (hi : i + 7 ≤ n) (next : ∀ (M : Mem) (σ : Sg), IC M σ → IM M σ → SgI σ → X Γ Ω RL cL_law 4 12 ret 1377 [some (.ref sb), some (.ref (Ω.2.2 0)), some (.ref (Ω.2.2 34)), some (.int (nI i))] [] M) {M : Mem} {σ : Sg} (hC : IC M σ) (hM : IM M σ) (hI : SgI σ) : X Γ Ω RL cL_law 4 12 ret 1229 [some (.ref sb), some (.ref (Ω.2.2 0)), some (.ref (Ω.2.2 34)), some (.int (nI i))] [] M := by
  refine x_aload_n dL_law_1229 rfl ?_
  refine x_arg (k := 1) hX hi dL_law_1230 dL_law_1231 dL_law_1232 rfl dL_law_1233 dL_law_1234 (by decide) ?_
  refine x_callV (n := 1) (c_kind hC hI.1) dL_law_1235 (q := 0) (ci := 10) (by decide) rfl (by decide) rfl (al4 (tb 919 (by decide +kernel) (by decide +kernel)) (tb 920 (by decide +kernel) (by decide +kernel)) (tb 921 (by decide +kernel) (by decide +kernel)) (tb 77 (by decide +kernel) (by decide +kernel))) (tb 922 (by decide +kernel) (by decide +kernel)) (by decide +kernel) (by decide) (by decide) rfl rfl (Nat.le_of_ble_eq_true rfl) ?_
  rintro _ M1 ⟨rfl, hC1, hF1⟩
  have hM1 := hM.keep hF1
  refine x_aload_n dL_law_1238 rfl ?_
  refine x_arg (k := 1) hX hi dL_law_1239 dL_law_1240 dL_law_1241 rfl dL_law_1242 dL_law_1243 (by decide) ?_
  refine x_callV (n := 1) (m_kind hM1 hI.1) dL_law_1244 (q := 34) (ci := 11) (by decide) rfl (by decide) rfl (al4 (tb 1412 (by decide +kernel) (by decide +kernel)) (tb 1413 (by decide +kernel) (by decide +kernel)) (tb 1414 (by decide +kernel) (by decide +kernel)) (tb 89 (by decide +kernel) (by decide +kernel))) (tb 1415 (by decide +kernel) (by decide +kernel)) (by decide +kernel) (by decide) (by decide) rfl rfl (Nat.le_of_ble_eq_true rfl) ?_
  rintro _ M2 ⟨rfl, hM2, hF2⟩
  refine x_icmp_eq 1377 dL_law_1247 (fun _ => ?_) (fun h => absurd rfl h)
  exact next M2 _ (hC1.frc hF2) hM2 hI
set_option maxRecDepth 100000 in
set_option maxHeartbeats 4000000 in
theorem la_as {Γ : Gx} {Ω : Om} {ret : Option FieldType} {sb n i : Nat} {xs : Nat → Int32} (hX : Scr Γ Ω sb n xs) (hi : i + 7 ≤ n) (next : ∀ (M : Mem) (σ : Sg), IC M σ → IM M σ → SgI σ → X Γ Ω RL cL_law 4 12 ret 1377 [some (.ref sb), some (.ref (Ω.2.2 0)), some (.ref (Ω.2.2 34)), some (.int (nI i))] [] M) {M : Mem} {σ : Sg} (hC : IC M σ) (hM : IM M σ) (hI : SgI σ) : X Γ Ω RL cL_law 4 12 ret 1252 [some (.ref sb), some (.ref (Ω.2.2 0)), some (.ref (Ω.2.2 34)), some (.int (nI i))] [] M := by
  refine x_aload_n dL_law_1252 rfl ?_
  refine x_arg (k := 1) hX hi dL_law_1253 dL_law_1254 dL_law_1255 rfl dL_law_1256 dL_law_1257 (by decide) ?_
  refine x_arg (k := 2) hX hi dL_law_1258 dL_law_1259 dL_law_1260 rfl dL_law_1261 dL_law_1262 (by decide) ?_
  refine x_callV (n := 2) (c_as hC hI.1) dL_law_1263 (q := 0) (ci := 10) (by decide) rfl (by decide) rfl (al4 (tb 923 (by decide +kernel) (by decide +kernel)) (tb 924 (by decide +kernel) (by decide +kernel)) (tb 925 (by decide +kernel) (by decide +kernel)) (tb 77 (by decide +kernel) (by decide +kernel))) (tb 926 (by decide +kernel) (by decide +kernel)) (by decide +kernel) (by decide) (by decide) rfl rfl (Nat.le_of_ble_eq_true rfl) ?_
  rintro _ M1 ⟨rfl, hC1, hF1⟩
  have hM1 := hM.keep hF1
  refine x_aload_n dL_law_1266 rfl ?_
  refine x_arg (k := 1) hX hi dL_law_1267 dL_law_1268 dL_law_1269 rfl dL_law_1270 dL_law_1271 (by decide) ?_
  refine x_arg (k := 2) hX hi dL_law_1272 dL_law_1273 dL_law_1274 rfl dL_law_1275 dL_law_1276 (by decide) ?_
  refine x_callV (n := 2) (m_as_ hM1 hI.1) dL_law_1277 (q := 34) (ci := 11) (by decide) rfl (by decide) rfl (al4 (tb 1416 (by decide +kernel) (by decide +kernel)) (tb 1417 (by decide +kernel) (by decide +kernel)) (tb 1418 (by decide +kernel) (by decide +kernel)) (tb 89 (by decide +kernel) (by decide +kernel))) (tb 1419 (by decide +kernel) (by decide +kernel)) (by decide +kernel) (by decide) (by decide) rfl rfl (Nat.le_of_ble_eq_true rfl) ?_
  rintro _ M2 ⟨rfl, hM2, hF2⟩
  refine x_icmp_eq 1377 dL_law_1280 (fun _ => ?_) (fun h => absurd rfl h)
  exact next M2 _ (hC1.frc hF2) hM2 (I_as hI _ _)
set_option maxRecDepth 100000 in
set_option maxHeartbeats 4000000 in
theorem la_ask {Γ : Gx} {Ω : Om} {ret : Option FieldType} {sb n i : Nat} {xs : Nat → Int32} (hX : Scr Γ Ω sb n xs) (hi : i + 7 ≤ n) (next : ∀ (M : Mem) (σ : Sg), IC M σ → IM M σ → SgI σ → X Γ Ω RL cL_law 4 12 ret 1377 [some (.ref sb), some (.ref (Ω.2.2 0)), some (.ref (Ω.2.2 34)), some (.int (nI i))] [] M) {M : Mem} {σ : Sg} (hC : IC M σ) (hM : IM M σ) (hI : SgI σ) : X Γ Ω RL cL_law 4 12 ret 1285 [some (.ref sb), some (.ref (Ω.2.2 0)), some (.ref (Ω.2.2 34)), some (.int (nI i))] [] M := by
  refine x_aload_n dL_law_1285 rfl ?_
  refine x_arg (k := 1) hX hi dL_law_1286 dL_law_1287 dL_law_1288 rfl dL_law_1289 dL_law_1290 (by decide) ?_
  refine x_arg (k := 2) hX hi dL_law_1291 dL_law_1292 dL_law_1293 rfl dL_law_1294 dL_law_1295 (by decide) ?_
  refine x_callV (n := 2) (c_ask hC hI.1) dL_law_1296 (q := 0) (ci := 10) (by decide) rfl (by decide) rfl (al4 (tb 931 (by decide +kernel) (by decide +kernel)) (tb 932 (by decide +kernel) (by decide +kernel)) (tb 933 (by decide +kernel) (by decide +kernel)) (tb 77 (by decide +kernel) (by decide +kernel))) (tb 934 (by decide +kernel) (by decide +kernel)) (by decide +kernel) (by decide) (by decide) rfl rfl (Nat.le_of_ble_eq_true rfl) ?_
  rintro _ M1 ⟨rfl, hC1, hF1⟩
  have hM1 := hM.keep hF1
  refine x_aload_n dL_law_1299 rfl ?_
  refine x_arg (k := 1) hX hi dL_law_1300 dL_law_1301 dL_law_1302 rfl dL_law_1303 dL_law_1304 (by decide) ?_
  refine x_arg (k := 2) hX hi dL_law_1305 dL_law_1306 dL_law_1307 rfl dL_law_1308 dL_law_1309 (by decide) ?_
  refine x_callV (n := 2) (m_ask hM1 hI.1) dL_law_1310 (q := 34) (ci := 11) (by decide) rfl (by decide) rfl (al4 (tb 1424 (by decide +kernel) (by decide +kernel)) (tb 1425 (by decide +kernel) (by decide +kernel)) (tb 1426 (by decide +kernel) (by decide +kernel)) (tb 89 (by decide +kernel) (by decide +kernel))) (tb 1427 (by decide +kernel) (by decide +kernel)) (by decide +kernel) (by decide) (by decide) rfl rfl (Nat.le_of_ble_eq_true rfl) ?_
  rintro _ M2 ⟨rfl, hM2, hF2⟩
  refine x_icmp_eq 1377 dL_law_1313 (fun _ => ?_) (fun h => absurd rfl h)
  exact next M2 _ (hC1.frc hF2) hM2 (I_ask hI _ _)
set_option maxRecDepth 100000 in
set_option maxHeartbeats 4000000 in
theorem la_trace {Γ : Gx} {Ω : Om} {ret : Option FieldType} {sb n i : Nat} {xs : Nat → Int32} (hX : Scr Γ Ω sb n xs) (hi : i + 7 ≤ n) (next : ∀ (M : Mem) (σ : Sg), IC M σ → IM M σ → SgI σ → X Γ Ω RL cL_law 4 12 ret 1377 [some (.ref sb), some (.ref (Ω.2.2 0)), some (.ref (Ω.2.2 34)), some (.int (nI i))] [] M) {M : Mem} {σ : Sg} (hC : IC M σ) (hM : IM M σ) (hI : SgI σ) : X Γ Ω RL cL_law 4 12 ret 1318 [some (.ref sb), some (.ref (Ω.2.2 0)), some (.ref (Ω.2.2 34)), some (.int (nI i))] [] M := by
  refine x_aload_n dL_law_1318 rfl ?_
  refine x_arg (k := 1) hX hi dL_law_1319 dL_law_1320 dL_law_1321 rfl dL_law_1322 dL_law_1323 (by decide) ?_
  refine x_callV (n := 1) (c_trace hC hI.1) dL_law_1324 (q := 0) (ci := 10) (by decide) rfl (by decide) rfl (al4 (tb 990 (by decide +kernel) (by decide +kernel)) (tb 991 (by decide +kernel) (by decide +kernel)) (tb 992 (by decide +kernel) (by decide +kernel)) (tb 77 (by decide +kernel) (by decide +kernel))) (tb 993 (by decide +kernel) (by decide +kernel)) (by decide +kernel) (by decide) (by decide) rfl rfl (Nat.le_of_ble_eq_true rfl) ?_
  rintro _ M1 ⟨rfl, hC1, hF1⟩
  have hM1 := hM.keep hF1
  refine x_aload_n dL_law_1327 rfl ?_
  refine x_arg (k := 1) hX hi dL_law_1328 dL_law_1329 dL_law_1330 rfl dL_law_1331 dL_law_1332 (by decide) ?_
  refine x_callV (n := 1) (m_trace hM1 hI.1) dL_law_1333 (q := 34) (ci := 11) (by decide) rfl (by decide) rfl (al4 (tb 1460 (by decide +kernel) (by decide +kernel)) (tb 1461 (by decide +kernel) (by decide +kernel)) (tb 1462 (by decide +kernel) (by decide +kernel)) (tb 89 (by decide +kernel) (by decide +kernel))) (tb 1463 (by decide +kernel) (by decide +kernel)) (by decide +kernel) (by decide) (by decide) rfl rfl (Nat.le_of_ble_eq_true rfl) ?_
  rintro _ M2 ⟨rfl, hM2, hF2⟩
  refine x_icmp_eq 1377 dL_law_1336 (fun _ => ?_) (fun h => absurd rfl h)
  exact next M2 _ (hC1.frc hF2) hM2 hI
set_option maxRecDepth 100000 in
set_option maxHeartbeats 4000000 in
theorem la_count {Γ : Gx} {Ω : Om} {ret : Option FieldType} {sb n i : Nat} {xs : Nat → Int32} (hX : Scr Γ Ω sb n xs) (hi : i + 7 ≤ n) (next : ∀ (M : Mem) (σ : Sg), IC M σ → IM M σ → SgI σ → X Γ Ω RL cL_law 4 12 ret 1377 [some (.ref sb), some (.ref (Ω.2.2 0)), some (.ref (Ω.2.2 34)), some (.int (nI i))] [] M) {M : Mem} {σ : Sg} (hC : IC M σ) (hM : IM M σ) (hI : SgI σ) : X Γ Ω RL cL_law 4 12 ret 1341 [some (.ref sb), some (.ref (Ω.2.2 0)), some (.ref (Ω.2.2 34)), some (.int (nI i))] [] M := by
  refine x_aload_n dL_law_1341 rfl ?_
  refine x_arg (k := 1) hX hi dL_law_1342 dL_law_1343 dL_law_1344 rfl dL_law_1345 dL_law_1346 (by decide) ?_
  refine x_callV (n := 1) (c_count hC hI.1) dL_law_1347 (q := 0) (ci := 10) (by decide) rfl (by decide) rfl (al4 (tb 994 (by decide +kernel) (by decide +kernel)) (tb 995 (by decide +kernel) (by decide +kernel)) (tb 996 (by decide +kernel) (by decide +kernel)) (tb 77 (by decide +kernel) (by decide +kernel))) (tb 997 (by decide +kernel) (by decide +kernel)) (by decide +kernel) (by decide) (by decide) rfl rfl (Nat.le_of_ble_eq_true rfl) ?_
  rintro _ M1 ⟨rfl, hC1, hF1⟩
  have hM1 := hM.keep hF1
  refine x_aload_n dL_law_1350 rfl ?_
  refine x_arg (k := 1) hX hi dL_law_1351 dL_law_1352 dL_law_1353 rfl dL_law_1354 dL_law_1355 (by decide) ?_
  refine x_callV (n := 1) (m_count hM1 hI.1) dL_law_1356 (q := 34) (ci := 11) (by decide) rfl (by decide) rfl (al4 (tb 1464 (by decide +kernel) (by decide +kernel)) (tb 1465 (by decide +kernel) (by decide +kernel)) (tb 1466 (by decide +kernel) (by decide +kernel)) (tb 89 (by decide +kernel) (by decide +kernel))) (tb 1467 (by decide +kernel) (by decide +kernel)) (by decide +kernel) (by decide) (by decide) rfl rfl (Nat.le_of_ble_eq_true rfl) ?_
  rintro _ M2 ⟨rfl, hM2, hF2⟩
  refine x_icmp_eq 1377 dL_law_1359 (fun _ => ?_) (fun h => absurd rfl h)
  exact next M2 _ (hC1.frc hF2) hM2 hI
set_option maxRecDepth 100000 in
set_option maxHeartbeats 4000000 in
theorem la_status {Γ : Gx} {Ω : Om} {ret : Option FieldType} {sb n i : Nat} {xs : Nat → Int32} (hX : Scr Γ Ω sb n xs) (hi : i + 7 ≤ n) (next : ∀ (M : Mem) (σ : Sg), IC M σ → IM M σ → SgI σ → X Γ Ω RL cL_law 4 12 ret 1377 [some (.ref sb), some (.ref (Ω.2.2 0)), some (.ref (Ω.2.2 34)), some (.int (nI i))] [] M) {M : Mem} {σ : Sg} (hC : IC M σ) (hM : IM M σ) (hI : SgI σ) : X Γ Ω RL cL_law 4 12 ret 1364 [some (.ref sb), some (.ref (Ω.2.2 0)), some (.ref (Ω.2.2 34)), some (.int (nI i))] [] M := by
  refine x_aload_n dL_law_1364 rfl ?_
  refine x_callV (n := 0) (c_status hC hI.1) dL_law_1365 (q := 0) (ci := 10) (by decide) rfl (by decide) rfl (al4 (tb 1002 (by decide +kernel) (by decide +kernel)) (tb 1003 (by decide +kernel) (by decide +kernel)) (tb 1004 (by decide +kernel) (by decide +kernel)) (tb 77 (by decide +kernel) (by decide +kernel))) (tb 1005 (by decide +kernel) (by decide +kernel)) (by decide +kernel) (by decide) (by decide) rfl rfl (Nat.le_of_ble_eq_true rfl) ?_
  rintro _ M1 ⟨rfl, hC1, hF1⟩
  have hM1 := hM.keep hF1
  refine x_aload_n dL_law_1368 rfl ?_
  refine x_callV (n := 0) (m_status hM1 hI.1) dL_law_1369 (q := 34) (ci := 11) (by decide) rfl (by decide) rfl (al4 (tb 1468 (by decide +kernel) (by decide +kernel)) (tb 1469 (by decide +kernel) (by decide +kernel)) (tb 1470 (by decide +kernel) (by decide +kernel)) (tb 89 (by decide +kernel) (by decide +kernel))) (tb 1471 (by decide +kernel) (by decide +kernel)) (by decide +kernel) (by decide) (by decide) rfl rfl (Nat.le_of_ble_eq_true rfl) ?_
  rintro _ M2 ⟨rfl, hM2, hF2⟩
  refine x_icmp_eq 1377 dL_law_1372 (fun _ => ?_) (fun h => absurd rfl h)
  exact next M2 _ (hC1.frc hF2) hM2 hI
