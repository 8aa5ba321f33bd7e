/-! The desk is made. -/
set_option maxHeartbeats 8000000 in
set_option maxRecDepth 100000 in
theorem ctK (l : Launch) : zCt l mK_init rcK 5 f0K wwK := by
  refine zct_enter (by decide) (Nat.le_of_ble_eq_true rfl) rfl (fun X h0 hc hin hao hA => ?_)
  refine zb_eq (ws' := [(h0, .inr (5, [.null, .null, .null, .null, .null, .int 0, .int 0]))]) rfl ?_
  refine zb_aload_n hc dK_init_0 rfl ?_
  refine zb_obj hc olK_1 obI obC dK_init_1 ⟨Nat.le_of_ble_eq_true rfl, Nat.le_of_ble_eq_true rfl⟩ ⟨Nat.le_of_ble_eq_true rfl, Nat.le_of_ble_eq_true rfl⟩ ?_
  refine zb_aload_n hc dK_init_4 rfl ?_
  refine zb_bipush hc (6 : Int32) dK_init_5 rfl ?_
  refine zb_newR 6 hc hA hao (zin 25 (by decide +kernel) (by decide +kernel)) dK_init_7 (by decide) rfl (by decide) ⟨Nat.le_of_ble_eq_true rfl, Nat.le_of_ble_eq_true rfl⟩ (fun q1 => ?_)
  refine zb_putF 0 hc hin gnK_11 dK_init_10 rfl rfl rfl (Nat.le_of_ble_eq_true rfl) ?_
  refine zb_eq (ws' := [(h0, .inr (5, [.ref q1, .null, .null, .null, .null, .int 0, .int 0])), (q1, .inl ((zca X).2.2.2, 6, .inr (.inr (.inr (.inr (fun _ => none))))))]) rfl ?_
  refine zb_aload_n hc dK_init_13 rfl ?_
  refine zb_iconst hc (4 : Int32) dK_init_14 rfl ?_
  refine zb_newR 4 hc hA hao (zin 25 (by decide +kernel) (by decide +kernel)) dK_init_15 (by decide) rfl (by decide) ⟨Nat.le_of_ble_eq_true rfl, Nat.le_of_ble_eq_true rfl⟩ (fun q2 => ?_)
  refine zb_putF 0 hc hin gnK_15 dK_init_18 rfl rfl rfl (Nat.le_of_ble_eq_true rfl) ?_
  refine zb_eq (ws' := [(h0, .inr (5, [.ref q1, .ref q2, .null, .null, .null, .int 0, .int 0])), (q1, .inl ((zca X).2.2.2, 6, .inr (.inr (.inr (.inr (fun _ => none)))))), (q2, .inl ((zca X).2.2.2, 4, .inr (.inr (.inr (.inr (fun _ => none))))))]) rfl ?_
  refine zb_aload_n hc dK_init_21 rfl ?_
  refine zb_new hc hA nwK_18 dK_init_22 ⟨Nat.le_of_ble_eq_true rfl, Nat.le_of_ble_eq_true rfl⟩ (fun q3 => ?_)
  refine zb_dup hc dK_init_25 ?_
  refine zb_ctorN (host := "RegionDesk") hc hA hao kD_init ⟨List.mem_of_getElem? (i := 0) rfl, iiD, rfl, rfl⟩ (ctD l) ⟨Nat.le_of_ble_eq_true rfl, Nat.le_of_ble_eq_true rfl⟩ (Nat.le_of_ble_eq_true rfl) ⟨Nat.le_of_ble_eq_true rfl, Nat.le_of_ble_eq_true rfl⟩ dK_init_26 (fun v4 e4 => ?_)
  subst e4
  refine zb_putF 0 hc hin gnK_21 dK_init_29 rfl rfl rfl (Nat.le_of_ble_eq_true rfl) ?_
  refine zb_eq (ws' := [(h0, .inr (5, [.ref q1, .ref q2, .ref (v4 0), .null, .null, .int 0, .int 0])), (q1, .inl ((zca X).2.2.2, 6, .inr (.inr (.inr (.inr (fun _ => none)))))), (q2, .inl ((zca X).2.2.2, 4, .inr (.inr (.inr (.inr (fun _ => none))))))] ++ wwD (zca X) v4) rfl ?_
  refine zb_aload_n hc dK_init_32 rfl ?_
  refine zb_new hc hA nwK_25 dK_init_33 ⟨Nat.le_of_ble_eq_true rfl, Nat.le_of_ble_eq_true rfl⟩ (fun q5 => ?_)
  refine zb_dup hc dK_init_36 ?_
  refine zb_ctorN (host := "RegionDesk") hc hA hao kW_init ⟨List.mem_of_getElem? (i := 1) rfl, iiW, rfl, rfl⟩ (ctW l) ⟨Nat.le_of_ble_eq_true rfl, Nat.le_of_ble_eq_true rfl⟩ (Nat.le_of_ble_eq_true rfl) ⟨Nat.le_of_ble_eq_true rfl, Nat.le_of_ble_eq_true rfl⟩ dK_init_37 (fun v6 e6 => ?_)
  subst e6
  refine zb_putF 0 hc hin gnK_28 dK_init_40 rfl rfl rfl (Nat.le_of_ble_eq_true rfl) ?_
  refine zb_eq (ws' := [(h0, .inr (5, [.ref q1, .ref q2, .ref (v4 0), .ref (v6 0), .null, .int 0, .int 0])), (q1, .inl ((zca X).2.2.2, 6, .inr (.inr (.inr (.inr (fun _ => none)))))), (q2, .inl ((zca X).2.2.2, 4, .inr (.inr (.inr (.inr (fun _ => none))))))] ++ wwD (zca X) v4 ++ wwW (zca X) v6) rfl ?_
  refine zb_aload_n hc dK_init_43 rfl ?_
  refine zb_new hc hA nwK_32 dK_init_44 ⟨Nat.le_of_ble_eq_true rfl, Nat.le_of_ble_eq_true rfl⟩ (fun q7 => ?_)
  refine zb_dup hc dK_init_47 ?_
  refine zb_ctorN (host := "RegionDesk") hc hA hao kI_init ⟨List.mem_of_getElem? (i := 2) rfl, iiI, rfl, rfl⟩ (ctI l) ⟨Nat.le_of_ble_eq_true rfl, Nat.le_of_ble_eq_true rfl⟩ (Nat.le_of_ble_eq_true rfl) ⟨Nat.le_of_ble_eq_true rfl, Nat.le_of_ble_eq_true rfl⟩ dK_init_48 (fun v8 e8 => ?_)
  subst e8
  refine zb_putF 0 hc hin gnK_35 dK_init_51 rfl rfl rfl (Nat.le_of_ble_eq_true rfl) ?_
  refine zb_eq (ws' := [(h0, .inr (5, [.ref q1, .ref q2, .ref (v4 0), .ref (v6 0), .ref (v8 0), .int 0, .int 0])), (q1, .inl ((zca X).2.2.2, 6, .inr (.inr (.inr (.inr (fun _ => none)))))), (q2, .inl ((zca X).2.2.2, 4, .inr (.inr (.inr (.inr (fun _ => none))))))] ++ wwD (zca X) v4 ++ wwW (zca X) v6 ++ wwIn (zca X) v8) rfl ?_
  refine zb_iconst hc (0 : Int32) dK_init_54 rfl ?_
  refine zb_istore_n (Lv' := [(1, .int 0), (0, .ref h0)]) hc dK_init_55 (by decide) rfl ?_
  refine zb_iload_n hc dK_init_56 rfl ?_
  refine zb_bipush hc (6 : Int32) dK_init_57 rfl ?_
  refine zb_icmp_ge_f 81 hc dK_init_59 rfl (by decide) ?_
  refine zb_aload_n hc dK_init_62 rfl ?_
  refine zb_get 0 hc gnK_11 dK_init_63 rfl rfl ?_
  refine zb_iload_n hc dK_init_66 rfl ?_
  refine zb_new hc hA nwK_9 dK_init_67 ⟨Nat.le_of_ble_eq_true rfl, Nat.le_of_ble_eq_true rfl⟩ (fun q9 => ?_)
  refine zb_dup hc dK_init_70 ?_
  refine zb_ctorN (host := "RegionDesk") hc hA hao kR_init ⟨List.mem_of_getElem? (i := 3) rfl, iiR, rfl, rfl⟩ (ctR l) ⟨Nat.le_of_ble_eq_true rfl, Nat.le_of_ble_eq_true rfl⟩ (Nat.le_of_ble_eq_true rfl) ⟨Nat.le_of_ble_eq_true rfl, Nat.le_of_ble_eq_true rfl⟩ dK_init_71 (fun v10 e10 => ?_)
  subst e10
  refine zb_ast (q0 := 1) (qk := 32) hc dK_init_74 rfl rfl (show ¬ _ by decide) ?_
  refine zb_eq (ws' := [(h0, .inr (5, [.ref q1, .ref q2, .ref (v4 0), .ref (v6 0), .ref (v8 0), .int 0, .int 0])), (q1, .inl ((zca X).2.2.2, 6, .inr (.inr (.inr (.inr (va_up (fun _ => none) 0 (some (v10 0)))))))), (q2, .inl ((zca X).2.2.2, 4, .inr (.inr (.inr (.inr (fun _ => none))))))] ++ wwD (zca X) v4 ++ wwW (zca X) v6 ++ wwIn (zca X) v8 ++ wwR (zca X) v10) rfl ?_
  refine zb_iinc (Lv' := [(1, .int 1), (0, .ref h0)]) hc (1 : Int32) dK_init_75 rfl rfl (by decide) rfl ?_
  refine zb_goto 56 hc dK_init_78 rfl ?_
  refine zb_iload_n hc dK_init_56 rfl ?_
  refine zb_bipush hc (6 : Int32) dK_init_57 rfl ?_
  refine zb_icmp_ge_f 81 hc dK_init_59 rfl (by decide) ?_
  refine zb_aload_n hc dK_init_62 rfl ?_
  refine zb_get 0 hc gnK_11 dK_init_63 rfl rfl ?_
  refine zb_iload_n hc dK_init_66 rfl ?_
  refine zb_new hc hA nwK_9 dK_init_67 ⟨Nat.le_of_ble_eq_true rfl, Nat.le_of_ble_eq_true rfl⟩ (fun q11 => ?_)
  refine zb_dup hc dK_init_70 ?_
  refine zb_ctorN (host := "RegionDesk") hc hA hao kR_init ⟨List.mem_of_getElem? (i := 3) rfl, iiR, rfl, rfl⟩ (ctR l) ⟨Nat.le_of_ble_eq_true rfl, Nat.le_of_ble_eq_true rfl⟩ (Nat.le_of_ble_eq_true rfl) ⟨Nat.le_of_ble_eq_true rfl, Nat.le_of_ble_eq_true rfl⟩ dK_init_71 (fun v12 e12 => ?_)
  subst e12
  refine zb_ast (q0 := 1) (qk := 35) hc dK_init_74 rfl rfl (show ¬ _ by decide) ?_
  refine zb_eq (ws' := [(h0, .inr (5, [.ref q1, .ref q2, .ref (v4 0), .ref (v6 0), .ref (v8 0), .int 0, .int 0])), (q1, .inl ((zca X).2.2.2, 6, .inr (.inr (.inr (.inr (va_up (va_up (fun _ => none) 0 (some (v10 0))) 1 (some (v12 0)))))))), (q2, .inl ((zca X).2.2.2, 4, .inr (.inr (.inr (.inr (fun _ => none))))))] ++ wwD (zca X) v4 ++ wwW (zca X) v6 ++ wwIn (zca X) v8 ++ wwR (zca X) v10 ++ wwR (zca X) v12) rfl ?_
  refine zb_iinc (Lv' := [(1, .int 2), (0, .ref h0)]) hc (2 : Int32) dK_init_75 rfl rfl (by decide) rfl ?_
  refine zb_goto 56 hc dK_init_78 rfl ?_
  refine zb_iload_n hc dK_init_56 rfl ?_
  refine zb_bipush hc (6 : Int32) dK_init_57 rfl ?_
  refine zb_icmp_ge_f 81 hc dK_init_59 rfl (by decide) ?_
  refine zb_aload_n hc dK_init_62 rfl ?_
  refine zb_get 0 hc gnK_11 dK_init_63 rfl rfl ?_
  refine zb_iload_n hc dK_init_66 rfl ?_
  refine zb_new hc hA nwK_9 dK_init_67 ⟨Nat.le_of_ble_eq_true rfl, Nat.le_of_ble_eq_true rfl⟩ (fun q13 => ?_)
  refine zb_dup hc dK_init_70 ?_
  refine zb_ctorN (host := "RegionDesk") hc hA hao kR_init ⟨List.mem_of_getElem? (i := 3) rfl, iiR, rfl, rfl⟩ (ctR l) ⟨Nat.le_of_ble_eq_true rfl, Nat.le_of_ble_eq_true rfl⟩ (Nat.le_of_ble_eq_true rfl) ⟨Nat.le_of_ble_eq_true rfl, Nat.le_of_ble_eq_true rfl⟩ dK_init_71 (fun v14 e14 => ?_)
  subst e14
  refine zb_ast (q0 := 1) (qk := 38) hc dK_init_74 rfl rfl (show ¬ _ by decide) ?_
  refine zb_eq (ws' := [(h0, .inr (5, [.ref q1, .ref q2, .ref (v4 0), .ref (v6 0), .ref (v8 0), .int 0, .int 0])), (q1, .inl ((zca X).2.2.2, 6, .inr (.inr (.inr (.inr (va_up (va_up (va_up (fun _ => none) 0 (some (v10 0))) 1 (some (v12 0))) 2 (some (v14 0)))))))), (q2, .inl ((zca X).2.2.2, 4, .inr (.inr (.inr (.inr (fun _ => none))))))] ++ wwD (zca X) v4 ++ wwW (zca X) v6 ++ wwIn (zca X) v8 ++ wwR (zca X) v10 ++ wwR (zca X) v12 ++ wwR (zca X) v14) rfl ?_
  refine zb_iinc (Lv' := [(1, .int 3), (0, .ref h0)]) hc (3 : Int32) dK_init_75 rfl rfl (by decide) rfl ?_
  refine zb_goto 56 hc dK_init_78 rfl ?_
  refine zb_iload_n hc dK_init_56 rfl ?_
  refine zb_bipush hc (6 : Int32) dK_init_57 rfl ?_
  refine zb_icmp_ge_f 81 hc dK_init_59 rfl (by decide) ?_
  refine zb_aload_n hc dK_init_62 rfl ?_
  refine zb_get 0 hc gnK_11 dK_init_63 rfl rfl ?_
  refine zb_iload_n hc dK_init_66 rfl ?_
  refine zb_new hc hA nwK_9 dK_init_67 ⟨Nat.le_of_ble_eq_true rfl, Nat.le_of_ble_eq_true rfl⟩ (fun q15 => ?_)
  refine zb_dup hc dK_init_70 ?_
  refine zb_ctorN (host := "RegionDesk") hc hA hao kR_init ⟨List.mem_of_getElem? (i := 3) rfl, iiR, rfl, rfl⟩ (ctR l) ⟨Nat.le_of_ble_eq_true rfl, Nat.le_of_ble_eq_true rfl⟩ (Nat.le_of_ble_eq_true rfl) ⟨Nat.le_of_ble_eq_true rfl, Nat.le_of_ble_eq_true rfl⟩ dK_init_71 (fun v16 e16 => ?_)
  subst e16
  refine zb_ast (q0 := 1) (qk := 41) hc dK_init_74 rfl rfl (show ¬ _ by decide) ?_
  refine zb_eq (ws' := [(h0, .inr (5, [.ref q1, .ref q2, .ref (v4 0), .ref (v6 0), .ref (v8 0), .int 0, .int 0])), (q1, .inl ((zca X).2.2.2, 6, .inr (.inr (.inr (.inr (va_up (va_up (va_up (va_up (fun _ => none) 0 (some (v10 0))) 1 (some (v12 0))) 2 (some (v14 0))) 3 (some (v16 0)))))))), (q2, .inl ((zca X).2.2.2, 4, .inr (.inr (.inr (.inr (fun _ => none))))))] ++ wwD (zca X) v4 ++ wwW (zca X) v6 ++ wwIn (zca X) v8 ++ wwR (zca X) v10 ++ wwR (zca X) v12 ++ wwR (zca X) v14 ++ wwR (zca X) v16) rfl ?_
  refine zb_iinc (Lv' := [(1, .int 4), (0, .ref h0)]) hc (4 : Int32) dK_init_75 rfl rfl (by decide) rfl ?_
  refine zb_goto 56 hc dK_init_78 rfl ?_
  refine zb_iload_n hc dK_init_56 rfl ?_
  refine zb_bipush hc (6 : Int32) dK_init_57 rfl ?_
  refine zb_icmp_ge_f 81 hc dK_init_59 rfl (by decide) ?_
  refine zb_aload_n hc dK_init_62 rfl ?_
  refine zb_get 0 hc gnK_11 dK_init_63 rfl rfl ?_
  refine zb_iload_n hc dK_init_66 rfl ?_
  refine zb_new hc hA nwK_9 dK_init_67 ⟨Nat.le_of_ble_eq_true rfl, Nat.le_of_ble_eq_true rfl⟩ (fun q17 => ?_)
  refine zb_dup hc dK_init_70 ?_
  refine zb_ctorN (host := "RegionDesk") hc hA hao kR_init ⟨List.mem_of_getElem? (i := 3) rfl, iiR, rfl, rfl⟩ (ctR l) ⟨Nat.le_of_ble_eq_true rfl, Nat.le_of_ble_eq_true rfl⟩ (Nat.le_of_ble_eq_true rfl) ⟨Nat.le_of_ble_eq_true rfl, Nat.le_of_ble_eq_true rfl⟩ dK_init_71 (fun v18 e18 => ?_)
  subst e18
  refine zb_ast (q0 := 1) (qk := 44) hc dK_init_74 rfl rfl (show ¬ _ by decide) ?_
  refine zb_eq (ws' := [(h0, .inr (5, [.ref q1, .ref q2, .ref (v4 0), .ref (v6 0), .ref (v8 0), .int 0, .int 0])), (q1, .inl ((zca X).2.2.2, 6, .inr (.inr (.inr (.inr (va_up (va_up (va_up (va_up (va_up (fun _ => none) 0 (some (v10 0))) 1 (some (v12 0))) 2 (some (v14 0))) 3 (some (v16 0))) 4 (some (v18 0)))))))), (q2, .inl ((zca X).2.2.2, 4, .inr (.inr (.inr (.inr (fun _ => none))))))] ++ wwD (zca X) v4 ++ wwW (zca X) v6 ++ wwIn (zca X) v8 ++ wwR (zca X) v10 ++ wwR (zca X) v12 ++ wwR (zca X) v14 ++ wwR (zca X) v16 ++ wwR (zca X) v18) rfl ?_
  refine zb_iinc (Lv' := [(1, .int 5), (0, .ref h0)]) hc (5 : Int32) dK_init_75 rfl rfl (by decide) rfl ?_
  refine zb_goto 56 hc dK_init_78 rfl ?_
  refine zb_iload_n hc dK_init_56 rfl ?_
  refine zb_bipush hc (6 : Int32) dK_init_57 rfl ?_
  refine zb_icmp_ge_f 81 hc dK_init_59 rfl (by decide) ?_
  refine zb_aload_n hc dK_init_62 rfl ?_
  refine zb_get 0 hc gnK_11 dK_init_63 rfl rfl ?_
  refine zb_iload_n hc dK_init_66 rfl ?_
  refine zb_new hc hA nwK_9 dK_init_67 ⟨Nat.le_of_ble_eq_true rfl, Nat.le_of_ble_eq_true rfl⟩ (fun q19 => ?_)
  refine zb_dup hc dK_init_70 ?_
  refine zb_ctorN (host := "RegionDesk") hc hA hao kR_init ⟨List.mem_of_getElem? (i := 3) rfl, iiR, rfl, rfl⟩ (ctR l) ⟨Nat.le_of_ble_eq_true rfl, Nat.le_of_ble_eq_true rfl⟩ (Nat.le_of_ble_eq_true rfl) ⟨Nat.le_of_ble_eq_true rfl, Nat.le_of_ble_eq_true rfl⟩ dK_init_71 (fun v20 e20 => ?_)
  subst e20
  refine zb_ast (q0 := 1) (qk := 47) hc dK_init_74 rfl rfl (show ¬ _ by decide) ?_
  refine zb_eq (ws' := [(h0, .inr (5, [.ref q1, .ref q2, .ref (v4 0), .ref (v6 0), .ref (v8 0), .int 0, .int 0])), (q1, .inl ((zca X).2.2.2, 6, .inr (.inr (.inr (.inr (va_up (va_up (va_up (va_up (va_up (va_up (fun _ => none) 0 (some (v10 0))) 1 (some (v12 0))) 2 (some (v14 0))) 3 (some (v16 0))) 4 (some (v18 0))) 5 (some (v20 0)))))))), (q2, .inl ((zca X).2.2.2, 4, .inr (.inr (.inr (.inr (fun _ => none))))))] ++ wwD (zca X) v4 ++ wwW (zca X) v6 ++ wwIn (zca X) v8 ++ wwR (zca X) v10 ++ wwR (zca X) v12 ++ wwR (zca X) v14 ++ wwR (zca X) v16 ++ wwR (zca X) v18 ++ wwR (zca X) v20) rfl ?_
  refine zb_iinc (Lv' := [(1, .int 6), (0, .ref h0)]) hc (6 : Int32) dK_init_75 rfl rfl (by decide) rfl ?_
  refine zb_goto 56 hc dK_init_78 rfl ?_
  refine zb_iload_n hc dK_init_56 rfl ?_
  refine zb_bipush hc (6 : Int32) dK_init_57 rfl ?_
  refine zb_icmp_ge_t 81 hc dK_init_59 rfl (by decide) ?_
  refine zb_iconst hc (0 : Int32) dK_init_81 rfl ?_
  refine zb_istore_n (Lv' := [(1, .int 0), (0, .ref h0)]) hc dK_init_82 (by decide) rfl ?_
  refine zb_iload_n hc dK_init_83 rfl ?_
  refine zb_iconst hc (4 : Int32) dK_init_84 rfl ?_
  refine zb_icmp_ge_f 107 hc dK_init_85 rfl (by decide) ?_
  refine zb_aload_n hc dK_init_88 rfl ?_
  refine zb_get 0 hc gnK_15 dK_init_89 rfl rfl ?_
  refine zb_iload_n hc dK_init_92 rfl ?_
  refine zb_new hc hA nwK_9 dK_init_93 ⟨Nat.le_of_ble_eq_true rfl, Nat.le_of_ble_eq_true rfl⟩ (fun q21 => ?_)
  refine zb_dup hc dK_init_96 ?_
  refine zb_ctorN (host := "RegionDesk") hc hA hao kR_init ⟨List.mem_of_getElem? (i := 3) rfl, iiR, rfl, rfl⟩ (ctR l) ⟨Nat.le_of_ble_eq_true rfl, Nat.le_of_ble_eq_true rfl⟩ (Nat.le_of_ble_eq_true rfl) ⟨Nat.le_of_ble_eq_true rfl, Nat.le_of_ble_eq_true rfl⟩ dK_init_97 (fun v22 e22 => ?_)
  subst e22
  refine zb_ast (q0 := 2) (qk := 50) hc dK_init_100 rfl rfl (show ¬ _ by decide) ?_
  refine zb_eq (ws' := [(h0, .inr (5, [.ref q1, .ref q2, .ref (v4 0), .ref (v6 0), .ref (v8 0), .int 0, .int 0])), (q1, .inl ((zca X).2.2.2, 6, .inr (.inr (.inr (.inr (va_up (va_up (va_up (va_up (va_up (va_up (fun _ => none) 0 (some (v10 0))) 1 (some (v12 0))) 2 (some (v14 0))) 3 (some (v16 0))) 4 (some (v18 0))) 5 (some (v20 0)))))))), (q2, .inl ((zca X).2.2.2, 4, .inr (.inr (.inr (.inr (va_up (fun _ => none) 0 (some (v22 0))))))))] ++ wwD (zca X) v4 ++ wwW (zca X) v6 ++ wwIn (zca X) v8 ++ wwR (zca X) v10 ++ wwR (zca X) v12 ++ wwR (zca X) v14 ++ wwR (zca X) v16 ++ wwR (zca X) v18 ++ wwR (zca X) v20 ++ wwR (zca X) v22) rfl ?_
  refine zb_iinc (Lv' := [(1, .int 1), (0, .ref h0)]) hc (1 : Int32) dK_init_101 rfl rfl (by decide) rfl ?_
  refine zb_goto 83 hc dK_init_104 rfl ?_
  refine zb_iload_n hc dK_init_83 rfl ?_
  refine zb_iconst hc (4 : Int32) dK_init_84 rfl ?_
  refine zb_icmp_ge_f 107 hc dK_init_85 rfl (by decide) ?_
  refine zb_aload_n hc dK_init_88 rfl ?_
  refine zb_get 0 hc gnK_15 dK_init_89 rfl rfl ?_
  refine zb_iload_n hc dK_init_92 rfl ?_
  refine zb_new hc hA nwK_9 dK_init_93 ⟨Nat.le_of_ble_eq_true rfl, Nat.le_of_ble_eq_true rfl⟩ (fun q23 => ?_)
  refine zb_dup hc dK_init_96 ?_
  refine zb_ctorN (host := "RegionDesk") hc hA hao kR_init ⟨List.mem_of_getElem? (i := 3) rfl, iiR, rfl, rfl⟩ (ctR l) ⟨Nat.le_of_ble_eq_true rfl, Nat.le_of_ble_eq_true rfl⟩ (Nat.le_of_ble_eq_true rfl) ⟨Nat.le_of_ble_eq_true rfl, Nat.le_of_ble_eq_true rfl⟩ dK_init_97 (fun v24 e24 => ?_)
  subst e24
  refine zb_ast (q0 := 2) (qk := 53) hc dK_init_100 rfl rfl (show ¬ _ by decide) ?_
  refine zb_eq (ws' := [(h0, .inr (5, [.ref q1, .ref q2, .ref (v4 0), .ref (v6 0), .ref (v8 0), .int 0, .int 0])), (q1, .inl ((zca X).2.2.2, 6, .inr (.inr (.inr (.inr (va_up (va_up (va_up (va_up (va_up (va_up (fun _ => none) 0 (some (v10 0))) 1 (some (v12 0))) 2 (some (v14 0))) 3 (some (v16 0))) 4 (some (v18 0))) 5 (some (v20 0)))))))), (q2, .inl ((zca X).2.2.2, 4, .inr (.inr (.inr (.inr (va_up (va_up (fun _ => none) 0 (some (v22 0))) 1 (some (v24 0))))))))] ++ wwD (zca X) v4 ++ wwW (zca X) v6 ++ wwIn (zca X) v8 ++ wwR (zca X) v10 ++ wwR (zca X) v12 ++ wwR (zca X) v14 ++ wwR (zca X) v16 ++ wwR (zca X) v18 ++ wwR (zca X) v20 ++ wwR (zca X) v22 ++ wwR (zca X) v24) rfl ?_
  refine zb_iinc (Lv' := [(1, .int 2), (0, .ref h0)]) hc (2 : Int32) dK_init_101 rfl rfl (by decide) rfl ?_
  refine zb_goto 83 hc dK_init_104 rfl ?_
  refine zb_iload_n hc dK_init_83 rfl ?_
  refine zb_iconst hc (4 : Int32) dK_init_84 rfl ?_
  refine zb_icmp_ge_f 107 hc dK_init_85 rfl (by decide) ?_
  refine zb_aload_n hc dK_init_88 rfl ?_
  refine zb_get 0 hc gnK_15 dK_init_89 rfl rfl ?_
  refine zb_iload_n hc dK_init_92 rfl ?_
  refine zb_new hc hA nwK_9 dK_init_93 ⟨Nat.le_of_ble_eq_true rfl, Nat.le_of_ble_eq_true rfl⟩ (fun q25 => ?_)
  refine zb_dup hc dK_init_96 ?_
  refine zb_ctorN (host := "RegionDesk") hc hA hao kR_init ⟨List.mem_of_getElem? (i := 3) rfl, iiR, rfl, rfl⟩ (ctR l) ⟨Nat.le_of_ble_eq_true rfl, Nat.le_of_ble_eq_true rfl⟩ (Nat.le_of_ble_eq_true rfl) ⟨Nat.le_of_ble_eq_true rfl, Nat.le_of_ble_eq_true rfl⟩ dK_init_97 (fun v26 e26 => ?_)
  subst e26
  refine zb_ast (q0 := 2) (qk := 56) hc dK_init_100 rfl rfl (show ¬ _ by decide) ?_
  refine zb_eq (ws' := [(h0, .inr (5, [.ref q1, .ref q2, .ref (v4 0), .ref (v6 0), .ref (v8 0), .int 0, .int 0])), (q1, .inl ((zca X).2.2.2, 6, .inr (.inr (.inr (.inr (va_up (va_up (va_up (va_up (va_up (va_up (fun _ => none) 0 (some (v10 0))) 1 (some (v12 0))) 2 (some (v14 0))) 3 (some (v16 0))) 4 (some (v18 0))) 5 (some (v20 0)))))))), (q2, .inl ((zca X).2.2.2, 4, .inr (.inr (.inr (.inr (va_up (va_up (va_up (fun _ => none) 0 (some (v22 0))) 1 (some (v24 0))) 2 (some (v26 0))))))))] ++ wwD (zca X) v4 ++ wwW (zca X) v6 ++ wwIn (zca X) v8 ++ wwR (zca X) v10 ++ wwR (zca X) v12 ++ wwR (zca X) v14 ++ wwR (zca X) v16 ++ wwR (zca X) v18 ++ wwR (zca X) v20 ++ wwR (zca X) v22 ++ wwR (zca X) v24 ++ wwR (zca X) v26) rfl ?_
  refine zb_iinc (Lv' := [(1, .int 3), (0, .ref h0)]) hc (3 : Int32) dK_init_101 rfl rfl (by decide) rfl ?_
  refine zb_goto 83 hc dK_init_104 rfl ?_
  refine zb_iload_n hc dK_init_83 rfl ?_
  refine zb_iconst hc (4 : Int32) dK_init_84 rfl ?_
  refine zb_icmp_ge_f 107 hc dK_init_85 rfl (by decide) ?_
  refine zb_aload_n hc dK_init_88 rfl ?_
  refine zb_get 0 hc gnK_15 dK_init_89 rfl rfl ?_
  refine zb_iload_n hc dK_init_92 rfl ?_
  refine zb_new hc hA nwK_9 dK_init_93 ⟨Nat.le_of_ble_eq_true rfl, Nat.le_of_ble_eq_true rfl⟩ (fun q27 => ?_)
  refine zb_dup hc dK_init_96 ?_
  refine zb_ctorN (host := "RegionDesk") hc hA hao kR_init ⟨List.mem_of_getElem? (i := 3) rfl, iiR, rfl, rfl⟩ (ctR l) ⟨Nat.le_of_ble_eq_true rfl, Nat.le_of_ble_eq_true rfl⟩ (Nat.le_of_ble_eq_true rfl) ⟨Nat.le_of_ble_eq_true rfl, Nat.le_of_ble_eq_true rfl⟩ dK_init_97 (fun v28 e28 => ?_)
  subst e28
  refine zb_ast (q0 := 2) (qk := 59) hc dK_init_100 rfl rfl (show ¬ _ by decide) ?_
  refine zb_eq (ws' := [(h0, .inr (5, [.ref q1, .ref q2, .ref (v4 0), .ref (v6 0), .ref (v8 0), .int 0, .int 0])), (q1, .inl ((zca X).2.2.2, 6, .inr (.inr (.inr (.inr (va_up (va_up (va_up (va_up (va_up (va_up (fun _ => none) 0 (some (v10 0))) 1 (some (v12 0))) 2 (some (v14 0))) 3 (some (v16 0))) 4 (some (v18 0))) 5 (some (v20 0)))))))), (q2, .inl ((zca X).2.2.2, 4, .inr (.inr (.inr (.inr (va_up (va_up (va_up (va_up (fun _ => none) 0 (some (v22 0))) 1 (some (v24 0))) 2 (some (v26 0))) 3 (some (v28 0))))))))] ++ wwD (zca X) v4 ++ wwW (zca X) v6 ++ wwIn (zca X) v8 ++ wwR (zca X) v10 ++ wwR (zca X) v12 ++ wwR (zca X) v14 ++ wwR (zca X) v16 ++ wwR (zca X) v18 ++ wwR (zca X) v20 ++ wwR (zca X) v22 ++ wwR (zca X) v24 ++ wwR (zca X) v26 ++ wwR (zca X) v28) rfl ?_
  refine zb_iinc (Lv' := [(1, .int 4), (0, .ref h0)]) hc (4 : Int32) dK_init_101 rfl rfl (by decide) rfl ?_
  refine zb_goto 83 hc dK_init_104 rfl ?_
  refine zb_iload_n hc dK_init_83 rfl ?_
  refine zb_iconst hc (4 : Int32) dK_init_84 rfl ?_
  refine zb_icmp_ge_t 107 hc dK_init_85 rfl (by decide) ?_
  have hu : ∃ u : Nat → Nat, u = fun i => ([h0, q1, q2, v4 0, v4 1, v4 2, v4 3, v4 4, v4 5, v4 6, v4 7, v4 8, v6 0, v6 1, v6 2, v6 3, v6 4, v6 5, v6 6, v6 7, v6 8, v6 9, v6 10, v6 11, v6 12, v6 13, v6 14, v6 15, v6 16, v6 17, v6 18, v8 0, v10 0, v10 1, v10 2, v12 0, v12 1, v12 2, v14 0, v14 1, v14 2, v16 0, v16 1, v16 2, v18 0, v18 1, v18 2, v20 0, v20 1, v20 2, v22 0, v22 1, v22 2, v24 0, v24 1, v24 2, v26 0, v26 1, v26 2, v28 0, v28 1, v28 2] : List Nat).getD i 0 := ⟨_, rfl⟩
  obtain ⟨u, hu⟩ := hu
  refine zb_alike (q0 := 1) (fun j => some (u (zel 1 j))) rfl (fun j hj => match j, hj with | 0, _ => by subst hu; rfl | 1, _ => by subst hu; rfl | 2, _ => by subst hu; rfl | 3, _ => by subst hu; rfl | 4, _ => by subst hu; rfl | 5, _ => by subst hu; rfl | n + 6, h => by omega) ?_
  refine zb_alike (q0 := 2) (fun j => some (u (zel 2 j))) rfl (fun j hj => match j, hj with | 0, _ => by subst hu; rfl | 1, _ => by subst hu; rfl | 2, _ => by subst hu; rfl | 3, _ => by subst hu; rfl | n + 4, h => by omega) ?_
  exact zb_vret u hc rfl dK_init_107 ⟨Nat.le_of_ble_eq_true rfl, Nat.le_of_ble_eq_true rfl⟩ (by subst hu; rfl) (by subst hu; rfl)
