/-! LAYER 3, 6d: the law, case by case. -/
theorem gr_n32 (v : Nat → Nat → Int32) : vf_n32 (mX5_ground v) := by
  unfold mX5_ground
  by_cases c : mX4_grainOfAllIfUntied v = 0
  · rw [if_pos c]; unfold vf_n32; decide
  · rw [if_neg c]; exact fd_ok c _
set_option maxHeartbeats 4000000 in
set_option maxRecDepth 100000 in
theorem law_count {p : Program} {l : Launch} {e : Env} {s : State} {m : MethodId} {below : List Frame} {meth : Method} {c : Code} {A : Nat → Prop} {b L i : Nat} {xs : Nat → Int32} {D : va_G} {q z h : Nat → Nat} {ad : Nat → Nat → Nat} {Z : State → Prop} (C0 : lwX p l s m meth c A b L i xs D q z) (hB : lwG p l e s m below meth c A b i D q ad h Z 932) : lwG p l e s m below meth c A b i D q ad h Z 764 := by
  obtain ⟨hx, hb, hml, hown, hts, hX, hbl, hbA, hL, hi, hG, hZ⟩ := C0
  intro xx x H locs hR hP hD hS ls hl
  refine lv_aload_n hx hb dL_law_764 rfl (lv_at hl 1 rfl) ?_
  refine lw_rd (k := 1) (b := b) (o1 := ad 9 0) (o2 := h 0) hx hb hX hbl hbA hL hl hS (by decide) (by omega) dL_law_765 dL_law_766 dL_law_767 dL_law_768 dL_law_769 ?_
  refine law_rX (v := .int (mX5_count xx (xs (i + 1)))) (rest := []) (As := [.int (xs (i + 1))]) hx hb hml hown hts hl (MX5_count l D q ad xx (xs (i + 1)) ) gL_law_X5_count rfl kX5_count ⟨Nat.le_of_ble_eq_true rfl, Nat.le_of_ble_eq_true rfl⟩ rfl rfl hP hD hG rfl rfl (Nat.le_of_ble_eq_true rfl) dL_law_770 ⟨Nat.le_of_ble_eq_true rfl, Nat.le_of_ble_eq_true rfl⟩ ?_
  refine lv_aload_n hx hb dL_law_773 rfl (lv_at hl 2 rfl) ?_
  refine lw_rd (k := 1) (b := b) (o1 := ad 9 0) (o2 := h 0) hx hb hX hbl hbA hL hl hS (by decide) (by omega) dL_law_774 dL_law_775 dL_law_776 dL_law_777 dL_law_778 ?_
  refine law_rM (v := .int (mX6_count x (xs (i + 1)))) (rest := [.int (mX5_count xx (xs (i + 1)))]) (As := [.int (xs (i + 1))]) hx hb hml hown hts hl (MX6_count l D q h x (xs (i + 1)) (rr_cnt hR)) gL_law_X6_count rfl kX6_count ⟨Nat.le_of_ble_eq_true rfl, Nat.le_of_ble_eq_true rfl⟩ rfl rfl hP hD hG rfl rfl (Nat.le_of_ble_eq_true rfl) dL_law_779 ⟨Nat.le_of_ble_eq_true rfl, Nat.le_of_ble_eq_true rfl⟩ ?_
  exact lv_icmp_eq (tgt := 932) hx hb dL_law_782 (by decide) (fun _ => hB xx x H locs hR hP hD hS ls hl) (fun c0 => absurd (t_count hR (xs (i + 1))) c0)
set_option maxHeartbeats 4000000 in
set_option maxRecDepth 100000 in
theorem law_ground {p : Program} {l : Launch} {e : Env} {s : State} {m : MethodId} {below : List Frame} {meth : Method} {c : Code} {A : Nat → Prop} {b L i : Nat} {xs : Nat → Int32} {D : va_G} {q z h : Nat → Nat} {ad : Nat → Nat → Nat} {Z : State → Prop} (C0 : lwX p l s m meth c A b L i xs D q z) (hB : lwG p l e s m below meth c A b i D q ad h Z 932) : lwG p l e s m below meth c A b i D q ad h Z 787 := by
  obtain ⟨hx, hb, hml, hown, hts, hX, hbl, hbA, hL, hi, hG, hZ⟩ := C0
  intro xx x H locs hR hP hD hS ls hl
  refine lv_aload_n hx hb dL_law_787 rfl (lv_at hl 1 rfl) ?_
  refine law_rN (v := .float (mX5_ground (xx 0) )) (rest := []) (As := []) hx hb hml hown hts hl (MX5_ground l D q ad (xx 9 0 0) (xx 0)  ) gL_law_X5_ground rfl kX5_ground ⟨Nat.le_of_ble_eq_true rfl, Nat.le_of_ble_eq_true rfl⟩ rfl rfl hP hD hG rfl rfl (Nat.le_of_ble_eq_true rfl) dL_law_788 ⟨Nat.le_of_ble_eq_true rfl, Nat.le_of_ble_eq_true rfl⟩ ?_
  have vn : vf_n32 (mX5_ground (xx 0)) := gr_n32 _
  have vd := f2d_ok vn
  refine lv_f2d hx hb dL_law_791 vd ?_
  refine lv_dstore (lv' := [(4, .double (FP.f2d (mX5_ground (xx 0)))), (0, .ref b), (1, .ref (ad 9 0)), (2, .ref (h 0)), (3, .int (nI i))]) hx hb dL_law_792 hl (by decide) rfl (fun ls hl => ?_)
  refine lv_aload_n hx hb dL_law_794 rfl (lv_at hl 3 rfl) ?_
  refine law_rM (v := .float (mX6_ground x)) (rest := []) (As := []) hx hb hml hown hts hl (MX6_ground l D q h x (rr_cnt hR)) gL_law_X6_ground rfl kX6_ground ⟨Nat.le_of_ble_eq_true rfl, Nat.le_of_ble_eq_true rfl⟩ rfl rfl hP hD hG rfl rfl (Nat.le_of_ble_eq_true rfl) dL_law_795 ⟨Nat.le_of_ble_eq_true rfl, Nat.le_of_ble_eq_true rfl⟩ ?_
  rw [← e_ground (rr_R hR) (rr_o2 hR)]
  refine lv_f2d hx hb dL_law_798 vd ?_
  refine lv_dstore (lv' := [(6, .double (FP.f2d (mX5_ground (xx 0)))), (4, .double (FP.f2d (mX5_ground (xx 0)))), (0, .ref b), (1, .ref (ad 9 0)), (2, .ref (h 0)), (3, .int (nI i))]) hx hb dL_law_799 hl (by decide) rfl (fun ls hl => ?_)
  refine lv_dload hx hb dL_law_801 (lv_at hl 1 rfl) ?_
  refine lv_dload hx hb dL_law_803 (lv_at hl 0 rfl) ?_
  refine lv_dcmp hx hb dL_law_805 ?_
  rw [dcmp_self vd]
  refine lv_if_eq (tgt := 827) hx hb dL_law_806 (by decide) (fun _ => ?_) (fun c0 => absurd rfl c0)
  refine lv_goto (tgt := 932) hx hb dL_law_827 (by decide) ?_
  exact hB xx x H locs hR hP hD hS ls (lv_sub hl [2, 3, 4, 5] rfl)
set_option maxHeartbeats 4000000 in
set_option maxRecDepth 100000 in
theorem law_quietHours {p : Program} {l : Launch} {e : Env} {s : State} {m : MethodId} {below : List Frame} {meth : Method} {c : Code} {A : Nat → Prop} {b L i : Nat} {xs : Nat → Int32} {D : va_G} {q z h : Nat → Nat} {ad : Nat → Nat → Nat} {Z : State → Prop} (C0 : lwX p l s m meth c A b L i xs D q z) (hB : lwG p l e s m below meth c A b i D q ad h Z 932) : lwG p l e s m below meth c A b i D q ad h Z 830 := by
  obtain ⟨hx, hb, hml, hown, hts, hX, hbl, hbA, hL, hi, hG, hZ⟩ := C0
  intro xx x H locs hR hP hD hS ls hl
  refine lv_aload_n hx hb dL_law_830 rfl (lv_at hl 1 rfl) ?_
  refine lw_rd (k := 1) (b := b) (o1 := ad 9 0) (o2 := h 0) hx hb hX hbl hbA hL hl hS (by decide) (by omega) dL_law_831 dL_law_832 dL_law_833 dL_law_834 dL_law_835 ?_
  refine law_rN (v := .int (mX5_quietHours (xx 0) (xs (i + 1)))) (rest := []) (As := [.int (xs (i + 1))]) hx hb hml hown hts hl (MX5_quietHours l D q ad (xx 9 0 0) (xx 0) (xs (i + 1)) ) gL_law_X5_quietHours rfl kX5_quietHours ⟨Nat.le_of_ble_eq_true rfl, Nat.le_of_ble_eq_true rfl⟩ rfl rfl hP hD hG rfl rfl (Nat.le_of_ble_eq_true rfl) dL_law_836 ⟨Nat.le_of_ble_eq_true rfl, Nat.le_of_ble_eq_true rfl⟩ ?_
  refine lv_aload_n hx hb dL_law_839 rfl (lv_at hl 2 rfl) ?_
  refine lw_rd (k := 1) (b := b) (o1 := ad 9 0) (o2 := h 0) hx hb hX hbl hbA hL hl hS (by decide) (by omega) dL_law_840 dL_law_841 dL_law_842 dL_law_843 dL_law_844 ?_
  refine law_rM (v := .int (mX6_quietHours x (xs (i + 1)))) (rest := [.int (mX5_quietHours (xx 0) (xs (i + 1)))]) (As := [.int (xs (i + 1))]) hx hb hml hown hts hl (MX6_quietHours l D q h x (xs (i + 1)) (rr_cnt hR)) gL_law_X6_quietHours rfl kX6_quietHours ⟨Nat.le_of_ble_eq_true rfl, Nat.le_of_ble_eq_true rfl⟩ rfl rfl hP hD hG rfl rfl (Nat.le_of_ble_eq_true rfl) dL_law_845 ⟨Nat.le_of_ble_eq_true rfl, Nat.le_of_ble_eq_true rfl⟩ ?_
  exact lv_icmp_eq (tgt := 932) hx hb dL_law_848 (by decide) (fun _ => hB xx x H locs hR hP hD hS ls hl) (fun c0 => absurd (e_quiet (rr_R hR) (rr_o2 hR) (xs (i + 1))) c0)
set_option maxHeartbeats 4000000 in
set_option maxRecDepth 100000 in
theorem law_loudest {p : Program} {l : Launch} {e : Env} {s : State} {m : MethodId} {below : List Frame} {meth : Method} {c : Code} {A : Nat → Prop} {b L i : Nat} {xs : Nat → Int32} {D : va_G} {q z h : Nat → Nat} {ad : Nat → Nat → Nat} {Z : State → Prop} (C0 : lwX p l s m meth c A b L i xs D q z) (hB : lwG p l e s m below meth c A b i D q ad h Z 932) : lwG p l e s m below meth c A b i D q ad h Z 853 := by
  obtain ⟨hx, hb, hml, hown, hts, hX, hbl, hbA, hL, hi, hG, hZ⟩ := C0
  intro xx x H locs hR hP hD hS ls hl
  refine lv_aload_n hx hb dL_law_853 rfl (lv_at hl 1 rfl) ?_
  refine lw_rd (k := 1) (b := b) (o1 := ad 9 0) (o2 := h 0) hx hb hX hbl hbA hL hl hS (by decide) (by omega) dL_law_854 dL_law_855 dL_law_856 dL_law_857 dL_law_858 ?_
  refine law_rN (v := .int (mX5_loudest (xx 0) (xs (i + 1)))) (rest := []) (As := [.int (xs (i + 1))]) hx hb hml hown hts hl (MX5_loudest l D q ad (xx 9 0 0) (xx 0) (xs (i + 1)) ) gL_law_X5_loudest rfl kX5_loudest ⟨Nat.le_of_ble_eq_true rfl, Nat.le_of_ble_eq_true rfl⟩ rfl rfl hP hD hG rfl rfl (Nat.le_of_ble_eq_true rfl) dL_law_859 ⟨Nat.le_of_ble_eq_true rfl, Nat.le_of_ble_eq_true rfl⟩ ?_
  refine lv_aload_n hx hb dL_law_862 rfl (lv_at hl 2 rfl) ?_
  refine lw_rd (k := 1) (b := b) (o1 := ad 9 0) (o2 := h 0) hx hb hX hbl hbA hL hl hS (by decide) (by omega) dL_law_863 dL_law_864 dL_law_865 dL_law_866 dL_law_867 ?_
  refine law_rM (v := .int (mX6_loudest x (xs (i + 1)))) (rest := [.int (mX5_loudest (xx 0) (xs (i + 1)))]) (As := [.int (xs (i + 1))]) hx hb hml hown hts hl (MX6_loudest l D q h x (xs (i + 1)) (rr_cnt hR)) gL_law_X6_loudest rfl kX6_loudest ⟨Nat.le_of_ble_eq_true rfl, Nat.le_of_ble_eq_true rfl⟩ rfl rfl hP hD hG rfl rfl (Nat.le_of_ble_eq_true rfl) dL_law_868 ⟨Nat.le_of_ble_eq_true rfl, Nat.le_of_ble_eq_true rfl⟩ ?_
  exact lv_icmp_eq (tgt := 932) hx hb dL_law_871 (by decide) (fun _ => hB xx x H locs hR hP hD hS ls hl) (fun c0 => absurd (e_loudest (rr_R hR) (rr_o2 hR) (xs (i + 1))) c0)
set_option maxHeartbeats 4000000 in
set_option maxRecDepth 100000 in
theorem law_bestTied {p : Program} {l : Launch} {e : Env} {s : State} {m : MethodId} {below : List Frame} {meth : Method} {c : Code} {A : Nat → Prop} {b L i : Nat} {xs : Nat → Int32} {D : va_G} {q z h : Nat → Nat} {ad : Nat → Nat → Nat} {Z : State → Prop} (C0 : lwX p l s m meth c A b L i xs D q z) (hB : lwG p l e s m below meth c A b i D q ad h Z 932) : lwG p l e s m below meth c A b i D q ad h Z 876 := by
  obtain ⟨hx, hb, hml, hown, hts, hX, hbl, hbA, hL, hi, hG, hZ⟩ := C0
  intro xx x H locs hR hP hD hS ls hl
  refine lv_aload_n hx hb dL_law_876 rfl (lv_at hl 1 rfl) ?_
  refine lw_rd (k := 1) (b := b) (o1 := ad 9 0) (o2 := h 0) hx hb hX hbl hbA hL hl hS (by decide) (by omega) dL_law_877 dL_law_878 dL_law_879 dL_law_880 dL_law_881 ?_
  refine law_rN (v := .int (mX5_bestTied (xx 0) (xs (i + 1)))) (rest := []) (As := [.int (xs (i + 1))]) hx hb hml hown hts hl (MX5_bestTied l D q ad (xx 9 0 0) (xx 0) (xs (i + 1)) ) gL_law_X5_bestTied rfl kX5_bestTied ⟨Nat.le_of_ble_eq_true rfl, Nat.le_of_ble_eq_true rfl⟩ rfl rfl hP hD hG rfl rfl (Nat.le_of_ble_eq_true rfl) dL_law_882 ⟨Nat.le_of_ble_eq_true rfl, Nat.le_of_ble_eq_true rfl⟩ ?_
  refine lv_aload_n hx hb dL_law_885 rfl (lv_at hl 2 rfl) ?_
  refine lw_rd (k := 1) (b := b) (o1 := ad 9 0) (o2 := h 0) hx hb hX hbl hbA hL hl hS (by decide) (by omega) dL_law_886 dL_law_887 dL_law_888 dL_law_889 dL_law_890 ?_
  refine law_rM (v := .int (mX6_bestTied x (xs (i + 1)))) (rest := [.int (mX5_bestTied (xx 0) (xs (i + 1)))]) (As := [.int (xs (i + 1))]) hx hb hml hown hts hl (MX6_bestTied l D q h x (xs (i + 1)) (rr_cnt hR)) gL_law_X6_bestTied rfl kX6_bestTied ⟨Nat.le_of_ble_eq_true rfl, Nat.le_of_ble_eq_true rfl⟩ rfl rfl hP hD hG rfl rfl (Nat.le_of_ble_eq_true rfl) dL_law_891 ⟨Nat.le_of_ble_eq_true rfl, Nat.le_of_ble_eq_true rfl⟩ ?_
  exact lv_icmp_eq (tgt := 932) hx hb dL_law_894 (by decide) (fun _ => hB xx x H locs hR hP hD hS ls hl) (fun c0 => absurd (e_best (rr_R hR) (rr_o2 hR) (xs (i + 1))) c0)
set_option maxHeartbeats 4000000 in
set_option maxRecDepth 100000 in
theorem law_ifVoted {p : Program} {l : Launch} {e : Env} {s : State} {m : MethodId} {below : List Frame} {meth : Method} {c : Code} {A : Nat → Prop} {b L i : Nat} {xs : Nat → Int32} {D : va_G} {q z h : Nat → Nat} {ad : Nat → Nat → Nat} {Z : State → Prop} (C0 : lwX p l s m meth c A b L i xs D q z) (hB : lwG p l e s m below meth c A b i D q ad h Z 932) : lwG p l e s m below meth c A b i D q ad h Z 899 := by
  obtain ⟨hx, hb, hml, hown, hts, hX, hbl, hbA, hL, hi, hG, hZ⟩ := C0
  intro xx x H locs hR hP hD hS ls hl
  refine lv_aload_n hx hb dL_law_899 rfl (lv_at hl 1 rfl) ?_
  refine lw_rd (k := 1) (b := b) (o1 := ad 9 0) (o2 := h 0) hx hb hX hbl hbA hL hl hS (by decide) (by omega) dL_law_900 dL_law_901 dL_law_902 dL_law_903 dL_law_904 ?_
  refine lw_rd (k := 2) (b := b) (o1 := ad 9 0) (o2 := h 0) hx hb hX hbl hbA hL hl hS (by decide) (by omega) dL_law_905 dL_law_906 dL_law_907 dL_law_908 dL_law_909 ?_
  refine law_rN (v := .int (mX5_ifVoted (xx 0) (xs (i + 1)) (xs (i + 2)))) (rest := []) (As := [.int (xs (i + 1)), .int (xs (i + 2))]) hx hb hml hown hts hl (MX5_ifVoted l D q ad (xx 9 0 0) (xx 0) (xs (i + 1)) (xs (i + 2)) ) gL_law_X5_ifVoted rfl kX5_ifVoted ⟨Nat.le_of_ble_eq_true rfl, Nat.le_of_ble_eq_true rfl⟩ rfl rfl hP hD hG rfl rfl (Nat.le_of_ble_eq_true rfl) dL_law_910 ⟨Nat.le_of_ble_eq_true rfl, Nat.le_of_ble_eq_true rfl⟩ ?_
  refine lv_aload_n hx hb dL_law_913 rfl (lv_at hl 2 rfl) ?_
  refine lw_rd (k := 1) (b := b) (o1 := ad 9 0) (o2 := h 0) hx hb hX hbl hbA hL hl hS (by decide) (by omega) dL_law_914 dL_law_915 dL_law_916 dL_law_917 dL_law_918 ?_
  refine lw_rd (k := 2) (b := b) (o1 := ad 9 0) (o2 := h 0) hx hb hX hbl hbA hL hl hS (by decide) (by omega) dL_law_919 dL_law_920 dL_law_921 dL_law_922 dL_law_923 ?_
  refine law_rM (v := .int (mX6_ifVoted x (xs (i + 1)) (xs (i + 2)))) (rest := [.int (mX5_ifVoted (xx 0) (xs (i + 1)) (xs (i + 2)))]) (As := [.int (xs (i + 1)), .int (xs (i + 2))]) hx hb hml hown hts hl (MX6_ifVoted l D q h x (xs (i + 1)) (xs (i + 2)) (rr_cnt hR)) gL_law_X6_ifVoted rfl kX6_ifVoted ⟨Nat.le_of_ble_eq_true rfl, Nat.le_of_ble_eq_true rfl⟩ rfl rfl hP hD hG rfl rfl (Nat.le_of_ble_eq_true rfl) dL_law_924 ⟨Nat.le_of_ble_eq_true rfl, Nat.le_of_ble_eq_true rfl⟩ ?_
  exact lv_icmp_eq (tgt := 932) hx hb dL_law_927 (by decide) (fun _ => hB xx x H locs hR hP hD hS ls hl) (fun c0 => absurd (e_ifVoted (rr_R hR) (rr_o2 hR) (xs (i + 1)) (xs (i + 2))) c0)
