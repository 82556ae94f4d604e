/-! ===== the Model's constructor ===== -/
def mi1 (h : fx_H) (p : Nat) : fx_H := fx_wr (fx_nw h (.inr (1, 10))) p 1 (some (p + 1))
def mi2 (h : fx_H) (p : Nat) : fx_H := fx_wr (fx_nw (mi1 h p) (.inr (0, 10))) p 2 (some (p + 2))
def mi3 (h : fx_H) (p : Nat) : fx_H := fx_wr (fx_nw (mi2 h p) (.inr (0, 10))) p 3 (some (p + 3))
def mi4 (h : fx_H) (p : Nat) : fx_H := fx_wr (fx_nw (mi3 h p) (.inr (0, 10))) p 4 (some (p + 4))
def mi5 (h : fx_H) (p : Nat) : fx_H := fx_wr (fx_nw (mi4 h p) (.inr (1, 10))) p 5 (some (p + 5))
def mi6 (h : fx_H) (p : Nat) : fx_H := fx_wr (fx_nw (mi5 h p) (.inr (1, 10))) p 6 (some (p + 6))
def mi7 (h : fx_H) (p : Nat) : fx_H := fx_wr (fx_nw (mi6 h p) (.inr (1, 30))) p 7 (some (p + 7))
def mi8 (h : fx_H) (p : Nat) : fx_H := fx_wr (fx_nw (mi7 h p) (.inr (0, 30))) p 8 (some (p + 8))
def mi9 (h : fx_H) (p : Nat) : fx_H := fx_wr (fx_nw (mi8 h p) (.inr (0, 30))) p 9 (some (p + 9))
def mi10 (h : fx_H) (p : Nat) : fx_H := fx_wr (fx_nw (mi9 h p) (.inr (0, 30))) p 10 (some (p + 10))
def mi11 (h : fx_H) (p : Nat) : fx_H := fx_wr (fx_nw (mi10 h p) (.inr (0, 30))) p 11 (some (p + 11))
def mi12 (h : fx_H) (p : Nat) : fx_H := fx_wr (fx_nw (mi11 h p) (.inr (1, 30))) p 12 (some (p + 12))
def mi13 (h : fx_H) (p : Nat) : fx_H := fx_wr (fx_nw (mi12 h p) (.inr (0, 30))) p 13 (some (p + 13))
def mi14 (h : fx_H) (p : Nat) : fx_H := fx_wr (fx_nw (mi13 h p) (.inr (0, 30))) p 14 (some (p + 14))
def mi15 (h : fx_H) (p : Nat) : fx_H := fx_wr (fx_nw (mi14 h p) (.inr (0, 30))) p 15 (some (p + 15))
def mi16 (h : fx_H) (p : Nat) : fx_H := fx_wr (fx_nw (mi15 h p) (.inr (0, 30))) p 16 (some (p + 16))
def mi17 (h : fx_H) (p : Nat) : fx_H := fx_wr (fx_nw (mi16 h p) (.inr (0, 2880))) p 17 (some (p + 17))
def mi18 (h : fx_H) (p : Nat) : fx_H := fx_wr (fx_nw (mi17 h p) (.inr (0, 96))) p 18 (some (p + 18))
def mi19 (h : fx_H) (p : Nat) : fx_H := fx_wr (fx_nw (mi18 h p) (.inr (1, 4))) p 21 (some (p + 19))
def mi20 (h : fx_H) (p : Nat) : fx_H := fx_wi (mi19 h p) p 23 1
def mi21 (h : fx_H) (p : Nat) : fx_H := fx_wr (fx_nw (mi20 h p) (.inr (0, 400))) p 24 (some (p + 20))
def mi22 (h : fx_H) (p : Nat) : fx_H := fx_wr (fx_nw (mi21 h p) (.inr (0, 2))) p 25 (some (p + 21))
def mi23 (h : fx_H) (p : Nat) : fx_H := fx_wr (fx_nw (mi22 h p) (.inr (0, 14))) p 26 (some (p + 22))
def mi24 (h : fx_H) (p : Nat) : fx_H := fx_wr (fx_nw (mi23 h p) (.inr (0, 14))) p 27 (some (p + 23))
def mi25 (h : fx_H) (p : Nat) : fx_H := fx_wr (fx_nw (mi24 h p) (.inr (0, 14))) p 28 (some (p + 24))
def mi26 (h : fx_H) (p : Nat) : fx_H := fx_wr (fx_nw (mi25 h p) (.inr (0, 14))) p 29 (some (p + 25))
def mi27 (h : fx_H) (p : Nat) : fx_H := fx_wr (fx_nw (mi26 h p) (.inr (0, 2))) p 30 (some (p + 26))
def mi28 (h : fx_H) (p : Nat) : fx_H := fx_wr (fx_nw (mi27 h p) (.inr (0, 10))) p 33 (some (p + 27))
def mi29 (h : fx_H) (p : Nat) : fx_H := fx_wr (fx_nw (mi28 h p) (.inr (0, 10))) p 34 (some (p + 28))
def mi30 (h : fx_H) (p : Nat) : fx_H := fx_wr (fx_nw (mi29 h p) (.inr (0, 10))) p 35 (some (p + 29))
def mi31 (h : fx_H) (p : Nat) : fx_H := fx_wr (fx_nw (mi30 h p) (.inr (0, 10))) p 36 (some (p + 30))
def mi32 (h : fx_H) (p : Nat) : fx_H := fx_wr (fx_nw (mi31 h p) (.inr (1, 10))) p 37 (some (p + 31))
def mi33 (h : fx_H) (p : Nat) : fx_H := fx_wr (fx_nw (mi32 h p) (.inr (0, 2))) p 46 (some (p + 32))
def mi34 (h : fx_H) (p : Nat) : fx_H := fx_wr (fx_nw (mi33 h p) (.inr (0, 2))) p 47 (some (p + 33))
def mi35 (h : fx_H) (p : Nat) : fx_H := fx_wr (fx_nw (mi34 h p) (.inr (0, 2))) p 48 (some (p + 34))
def mi36 (h : fx_H) (p : Nat) : fx_H := fx_wr (fx_nw (mi35 h p) (.inr (0, 2))) p 49 (some (p + 35))
def mi37 (h : fx_H) (p : Nat) : fx_H := fx_wr (fx_nw (mi36 h p) (.inr (0, 48))) p 50 (some (p + 36))
def mi38 (h : fx_H) (p : Nat) : fx_H := fx_wr (fx_nw (mi37 h p) (.inr (0, 200))) p 51 (some (p + 37))
def mi39 (h : fx_H) (p : Nat) : fx_H := fx_wi (mi38 h p) (p + 26) 0 (-1)
def mi40 (h : fx_H) (p : Nat) : fx_H := fx_wi (mi39 h p) (p + 26) 1 (-1)
def k_MO_init (h : fx_H) (p : Nat) : fx_H := mi40 h p
set_option maxRecDepth 100000 in
set_option maxHeartbeats 1000000 in
theorem c_MO_init {g : fx_G} (ok : fx_ok g) (h : fx_H) (p : Nat) (hn : fx_n h = p + 1) (hp : fx_s h p = some (.inl 10)) : fx_C g mq_MO_init [.ref p] h (fx_is none (k_MO_init h p)) 37 4106 := by
  refine fx_body (by decide +kernel) (Nat.le_of_ble_eq_true rfl) ?_
  show fx_X g mq_MO_init 0 [(0, .ref p)] [] h _ 37 4106
  refine fx_aload_n 0 dq_MO_init_0 rfl rfl ?_
  refine fx_objInit ok sq_MO_1 kj_obj.1 kj_obj.2 (by decide) (Nat.le_of_ble_eq_true rfl) dq_MO_init_1 ?_
  refine fx_aload_n 0 dq_MO_init_4 rfl rfl ?_
  refine fx_bipush (v := 10) dq_MO_init_5 (by decide) ?_
  refine fx_newa ok (mc := 36) (ms := 4096) (atype := .boolean) (ak := 1) (N := 10) rfl (by decide) (by decide) (by decide) (by intro C hC; cases hC) ka_boolean (by decide) (by decide) (by decide) dq_MO_init_7 ?_
  rw [hn]
  have t0 : fx_s (fx_nw h (.inr (1, 10))) p = some (.inl 10) := (nw_o hn (Nat.lt_add_of_pos_right (by decide))).trans hp
  refine fx_putr ok fp_MO_7 t0 (fun _ => rfl) dq_MO_init_9 (by decide) ?_
  refine fx_eqh (h' := mi1 h p) rfl ?_
  have s1 : fx_s (mi1 h p) p = some (.inl 10) := (fx_s_wr _ _ _ _ _).trans t0
  have n1 : fx_n (mi1 h p) = p + 2 := (fx_n_wr _ _ _ _).trans ((fx_n_nw _ _).trans (congrArg (· + 1) hn))
  refine fx_aload_n 0 dq_MO_init_12 rfl rfl ?_
  refine fx_bipush (v := 10) dq_MO_init_13 (by decide) ?_
  refine fx_newa ok (mc := 35) (ms := 4086) (atype := .int) (ak := 0) (N := 10) rfl (by decide) (by decide) (by decide) (by intro C hC; cases hC) ka_int (by decide) (by decide) (by decide) dq_MO_init_15 ?_
  rw [n1]
  have t1 : fx_s (fx_nw (mi1 h p) (.inr (0, 10))) p = some (.inl 10) := (nw_o n1 (Nat.lt_add_of_pos_right (by decide))).trans s1
  refine fx_putr ok fp_MO_13 t1 (fun _ => rfl) dq_MO_init_17 (by decide) ?_
  refine fx_eqh (h' := mi2 h p) rfl ?_
  have s2 : fx_s (mi2 h p) p = some (.inl 10) := (fx_s_wr _ _ _ _ _).trans t1
  have n2 : fx_n (mi2 h p) = p + 3 := (fx_n_wr _ _ _ _).trans ((fx_n_nw _ _).trans (congrArg (· + 1) n1))
  refine fx_aload_n 0 dq_MO_init_20 rfl rfl ?_
  refine fx_bipush (v := 10) dq_MO_init_21 (by decide) ?_
  refine fx_newa ok (mc := 34) (ms := 4076) (atype := .int) (ak := 0) (N := 10) rfl (by decide) (by decide) (by decide) (by intro C hC; cases hC) ka_int (by decide) (by decide) (by decide) dq_MO_init_23 ?_
  rw [n2]
  have t2 : fx_s (fx_nw (mi2 h p) (.inr (0, 10))) p = some (.inl 10) := (nw_o n2 (Nat.lt_add_of_pos_right (by decide))).trans s2
  refine fx_putr ok fp_MO_17 t2 (fun _ => rfl) dq_MO_init_25 (by decide) ?_
  refine fx_eqh (h' := mi3 h p) rfl ?_
  have s3 : fx_s (mi3 h p) p = some (.inl 10) := (fx_s_wr _ _ _ _ _).trans t2
  have n3 : fx_n (mi3 h p) = p + 4 := (fx_n_wr _ _ _ _).trans ((fx_n_nw _ _).trans (congrArg (· + 1) n2))
  refine fx_aload_n 0 dq_MO_init_28 rfl rfl ?_
  refine fx_bipush (v := 10) dq_MO_init_29 (by decide) ?_
  refine fx_newa ok (mc := 33) (ms := 4066) (atype := .int) (ak := 0) (N := 10) rfl (by decide) (by decide) (by decide) (by intro C hC; cases hC) ka_int (by decide) (by decide) (by decide) dq_MO_init_31 ?_
  rw [n3]
  have t3 : fx_s (fx_nw (mi3 h p) (.inr (0, 10))) p = some (.inl 10) := (nw_o n3 (Nat.lt_add_of_pos_right (by decide))).trans s3
  refine fx_putr ok fp_MO_20 t3 (fun _ => rfl) dq_MO_init_33 (by decide) ?_
  refine fx_eqh (h' := mi4 h p) rfl ?_
  have s4 : fx_s (mi4 h p) p = some (.inl 10) := (fx_s_wr _ _ _ _ _).trans t3
  have n4 : fx_n (mi4 h p) = p + 5 := (fx_n_wr _ _ _ _).trans ((fx_n_nw _ _).trans (congrArg (· + 1) n3))
  refine fx_aload_n 0 dq_MO_init_36 rfl rfl ?_
  refine fx_bipush (v := 10) dq_MO_init_37 (by decide) ?_
  refine fx_newa ok (mc := 32) (ms := 4056) (atype := .boolean) (ak := 1) (N := 10) rfl (by decide) (by decide) (by decide) (by intro C hC; cases hC) ka_boolean (by decide) (by decide) (by decide) dq_MO_init_39 ?_
  rw [n4]
  have t4 : fx_s (fx_nw (mi4 h p) (.inr (1, 10))) p = some (.inl 10) := (nw_o n4 (Nat.lt_add_of_pos_right (by decide))).trans s4
  refine fx_putr ok fp_MO_23 t4 (fun _ => rfl) dq_MO_init_41 (by decide) ?_
  refine fx_eqh (h' := mi5 h p) rfl ?_
  have s5 : fx_s (mi5 h p) p = some (.inl 10) := (fx_s_wr _ _ _ _ _).trans t4
  have n5 : fx_n (mi5 h p) = p + 6 := (fx_n_wr _ _ _ _).trans ((fx_n_nw _ _).trans (congrArg (· + 1) n4))
  refine fx_aload_n 0 dq_MO_init_44 rfl rfl ?_
  refine fx_bipush (v := 10) dq_MO_init_45 (by decide) ?_
  refine fx_newa ok (mc := 31) (ms := 4046) (atype := .boolean) (ak := 1) (N := 10) rfl (by decide) (by decide) (by decide) (by intro C hC; cases hC) ka_boolean (by decide) (by decide) (by decide) dq_MO_init_47 ?_
  rw [n5]
  have t5 : fx_s (fx_nw (mi5 h p) (.inr (1, 10))) p = some (.inl 10) := (nw_o n5 (Nat.lt_add_of_pos_right (by decide))).trans s5
  refine fx_putr ok fp_MO_26 t5 (fun _ => rfl) dq_MO_init_49 (by decide) ?_
  refine fx_eqh (h' := mi6 h p) rfl ?_
  have s6 : fx_s (mi6 h p) p = some (.inl 10) := (fx_s_wr _ _ _ _ _).trans t5
  have n6 : fx_n (mi6 h p) = p + 7 := (fx_n_wr _ _ _ _).trans ((fx_n_nw _ _).trans (congrArg (· + 1) n5))
  refine fx_aload_n 0 dq_MO_init_52 rfl rfl ?_
  refine fx_bipush (v := 30) dq_MO_init_53 (by decide) ?_
  refine fx_newa ok (mc := 30) (ms := 4016) (atype := .boolean) (ak := 1) (N := 30) rfl (by decide) (by decide) (by decide) (by intro C hC; cases hC) ka_boolean (by decide) (by decide) (by decide) dq_MO_init_55 ?_
  rw [n6]
  have t6 : fx_s (fx_nw (mi6 h p) (.inr (1, 30))) p = some (.inl 10) := (nw_o n6 (Nat.lt_add_of_pos_right (by decide))).trans s6
  refine fx_putr ok fp_MO_29 t6 (fun _ => rfl) dq_MO_init_57 (by decide) ?_
  refine fx_eqh (h' := mi7 h p) rfl ?_
  have s7 : fx_s (mi7 h p) p = some (.inl 10) := (fx_s_wr _ _ _ _ _).trans t6
  have n7 : fx_n (mi7 h p) = p + 8 := (fx_n_wr _ _ _ _).trans ((fx_n_nw _ _).trans (congrArg (· + 1) n6))
  refine fx_aload_n 0 dq_MO_init_60 rfl rfl ?_
  refine fx_bipush (v := 30) dq_MO_init_61 (by decide) ?_
  refine fx_newa ok (mc := 29) (ms := 3986) (atype := .int) (ak := 0) (N := 30) rfl (by decide) (by decide) (by decide) (by intro C hC; cases hC) ka_int (by decide) (by decide) (by decide) dq_MO_init_63 ?_
  rw [n7]
  have t7 : fx_s (fx_nw (mi7 h p) (.inr (0, 30))) p = some (.inl 10) := (nw_o n7 (Nat.lt_add_of_pos_right (by decide))).trans s7
  refine fx_putr ok fp_MO_32 t7 (fun _ => rfl) dq_MO_init_65 (by decide) ?_
  refine fx_eqh (h' := mi8 h p) rfl ?_
  have s8 : fx_s (mi8 h p) p = some (.inl 10) := (fx_s_wr _ _ _ _ _).trans t7
  have n8 : fx_n (mi8 h p) = p + 9 := (fx_n_wr _ _ _ _).trans ((fx_n_nw _ _).trans (congrArg (· + 1) n7))
  refine fx_aload_n 0 dq_MO_init_68 rfl rfl ?_
  refine fx_bipush (v := 30) dq_MO_init_69 (by decide) ?_
  refine fx_newa ok (mc := 28) (ms := 3956) (atype := .int) (ak := 0) (N := 30) rfl (by decide) (by decide) (by decide) (by intro C hC; cases hC) ka_int (by decide) (by decide) (by decide) dq_MO_init_71 ?_
  rw [n8]
  have t8 : fx_s (fx_nw (mi8 h p) (.inr (0, 30))) p = some (.inl 10) := (nw_o n8 (Nat.lt_add_of_pos_right (by decide))).trans s8
  refine fx_putr ok fp_MO_35 t8 (fun _ => rfl) dq_MO_init_73 (by decide) ?_
  refine fx_eqh (h' := mi9 h p) rfl ?_
  have s9 : fx_s (mi9 h p) p = some (.inl 10) := (fx_s_wr _ _ _ _ _).trans t8
  have n9 : fx_n (mi9 h p) = p + 10 := (fx_n_wr _ _ _ _).trans ((fx_n_nw _ _).trans (congrArg (· + 1) n8))
  refine fx_aload_n 0 dq_MO_init_76 rfl rfl ?_
  refine fx_bipush (v := 30) dq_MO_init_77 (by decide) ?_
  refine fx_newa ok (mc := 27) (ms := 3926) (atype := .int) (ak := 0) (N := 30) rfl (by decide) (by decide) (by decide) (by intro C hC; cases hC) ka_int (by decide) (by decide) (by decide) dq_MO_init_79 ?_
  rw [n9]
  have t9 : fx_s (fx_nw (mi9 h p) (.inr (0, 30))) p = some (.inl 10) := (nw_o n9 (Nat.lt_add_of_pos_right (by decide))).trans s9
  refine fx_putr ok fp_MO_38 t9 (fun _ => rfl) dq_MO_init_81 (by decide) ?_
  refine fx_eqh (h' := mi10 h p) rfl ?_
  have s10 : fx_s (mi10 h p) p = some (.inl 10) := (fx_s_wr _ _ _ _ _).trans t9
  have n10 : fx_n (mi10 h p) = p + 11 := (fx_n_wr _ _ _ _).trans ((fx_n_nw _ _).trans (congrArg (· + 1) n9))
  refine fx_aload_n 0 dq_MO_init_84 rfl rfl ?_
  refine fx_bipush (v := 30) dq_MO_init_85 (by decide) ?_
  refine fx_newa ok (mc := 26) (ms := 3896) (atype := .int) (ak := 0) (N := 30) rfl (by decide) (by decide) (by decide) (by intro C hC; cases hC) ka_int (by decide) (by decide) (by decide) dq_MO_init_87 ?_
  rw [n10]
  have t10 : fx_s (fx_nw (mi10 h p) (.inr (0, 30))) p = some (.inl 10) := (nw_o n10 (Nat.lt_add_of_pos_right (by decide))).trans s10
  refine fx_putr ok fp_MO_41 t10 (fun _ => rfl) dq_MO_init_89 (by decide) ?_
  refine fx_eqh (h' := mi11 h p) rfl ?_
  have s11 : fx_s (mi11 h p) p = some (.inl 10) := (fx_s_wr _ _ _ _ _).trans t10
  have n11 : fx_n (mi11 h p) = p + 12 := (fx_n_wr _ _ _ _).trans ((fx_n_nw _ _).trans (congrArg (· + 1) n10))
  refine fx_aload_n 0 dq_MO_init_92 rfl rfl ?_
  refine fx_bipush (v := 30) dq_MO_init_93 (by decide) ?_
  refine fx_newa ok (mc := 25) (ms := 3866) (atype := .boolean) (ak := 1) (N := 30) rfl (by decide) (by decide) (by decide) (by intro C hC; cases hC) ka_boolean (by decide) (by decide) (by decide) dq_MO_init_95 ?_
  rw [n11]
  have t11 : fx_s (fx_nw (mi11 h p) (.inr (1, 30))) p = some (.inl 10) := (nw_o n11 (Nat.lt_add_of_pos_right (by decide))).trans s11
  refine fx_putr ok fp_MO_44 t11 (fun _ => rfl) dq_MO_init_97 (by decide) ?_
  refine fx_eqh (h' := mi12 h p) rfl ?_
  have s12 : fx_s (mi12 h p) p = some (.inl 10) := (fx_s_wr _ _ _ _ _).trans t11
  have n12 : fx_n (mi12 h p) = p + 13 := (fx_n_wr _ _ _ _).trans ((fx_n_nw _ _).trans (congrArg (· + 1) n11))
  refine fx_aload_n 0 dq_MO_init_100 rfl rfl ?_
  refine fx_bipush (v := 30) dq_MO_init_101 (by decide) ?_
  refine fx_newa ok (mc := 24) (ms := 3836) (atype := .int) (ak := 0) (N := 30) rfl (by decide) (by decide) (by decide) (by intro C hC; cases hC) ka_int (by decide) (by decide) (by decide) dq_MO_init_103 ?_
  rw [n12]
  have t12 : fx_s (fx_nw (mi12 h p) (.inr (0, 30))) p = some (.inl 10) := (nw_o n12 (Nat.lt_add_of_pos_right (by decide))).trans s12
  refine fx_putr ok fp_MO_47 t12 (fun _ => rfl) dq_MO_init_105 (by decide) ?_
  refine fx_eqh (h' := mi13 h p) rfl ?_
  have s13 : fx_s (mi13 h p) p = some (.inl 10) := (fx_s_wr _ _ _ _ _).trans t12
  have n13 : fx_n (mi13 h p) = p + 14 := (fx_n_wr _ _ _ _).trans ((fx_n_nw _ _).trans (congrArg (· + 1) n12))
  refine fx_aload_n 0 dq_MO_init_108 rfl rfl ?_
  refine fx_bipush (v := 30) dq_MO_init_109 (by decide) ?_
  refine fx_newa ok (mc := 23) (ms := 3806) (atype := .int) (ak := 0) (N := 30) rfl (by decide) (by decide) (by decide) (by intro C hC; cases hC) ka_int (by decide) (by decide) (by decide) dq_MO_init_111 ?_
  rw [n13]
  have t13 : fx_s (fx_nw (mi13 h p) (.inr (0, 30))) p = some (.inl 10) := (nw_o n13 (Nat.lt_add_of_pos_right (by decide))).trans s13
  refine fx_putr ok fp_MO_50 t13 (fun _ => rfl) dq_MO_init_113 (by decide) ?_
  refine fx_eqh (h' := mi14 h p) rfl ?_
  have s14 : fx_s (mi14 h p) p = some (.inl 10) := (fx_s_wr _ _ _ _ _).trans t13
  have n14 : fx_n (mi14 h p) = p + 15 := (fx_n_wr _ _ _ _).trans ((fx_n_nw _ _).trans (congrArg (· + 1) n13))
  refine fx_aload_n 0 dq_MO_init_116 rfl rfl ?_
  refine fx_bipush (v := 30) dq_MO_init_117 (by decide) ?_
  refine fx_newa ok (mc := 22) (ms := 3776) (atype := .int) (ak := 0) (N := 30) rfl (by decide) (by decide) (by decide) (by intro C hC; cases hC) ka_int (by decide) (by decide) (by decide) dq_MO_init_119 ?_
  rw [n14]
  have t14 : fx_s (fx_nw (mi14 h p) (.inr (0, 30))) p = some (.inl 10) := (nw_o n14 (Nat.lt_add_of_pos_right (by decide))).trans s14
  refine fx_putr ok fp_MO_53 t14 (fun _ => rfl) dq_MO_init_121 (by decide) ?_
  refine fx_eqh (h' := mi15 h p) rfl ?_
  have s15 : fx_s (mi15 h p) p = some (.inl 10) := (fx_s_wr _ _ _ _ _).trans t14
  have n15 : fx_n (mi15 h p) = p + 16 := (fx_n_wr _ _ _ _).trans ((fx_n_nw _ _).trans (congrArg (· + 1) n14))
  refine fx_aload_n 0 dq_MO_init_124 rfl rfl ?_
  refine fx_bipush (v := 30) dq_MO_init_125 (by decide) ?_
  refine fx_newa ok (mc := 21) (ms := 3746) (atype := .int) (ak := 0) (N := 30) rfl (by decide) (by decide) (by decide) (by intro C hC; cases hC) ka_int (by decide) (by decide) (by decide) dq_MO_init_127 ?_
  rw [n15]
  have t15 : fx_s (fx_nw (mi15 h p) (.inr (0, 30))) p = some (.inl 10) := (nw_o n15 (Nat.lt_add_of_pos_right (by decide))).trans s15
  refine fx_putr ok fp_MO_56 t15 (fun _ => rfl) dq_MO_init_129 (by decide) ?_
  refine fx_eqh (h' := mi16 h p) rfl ?_
  have s16 : fx_s (mi16 h p) p = some (.inl 10) := (fx_s_wr _ _ _ _ _).trans t15
  have n16 : fx_n (mi16 h p) = p + 17 := (fx_n_wr _ _ _ _).trans ((fx_n_nw _ _).trans (congrArg (· + 1) n15))
  refine fx_aload_n 0 dq_MO_init_132 rfl rfl ?_
  refine fx_sipush (v := 2880) dq_MO_init_133 (by decide) ?_
  refine fx_newa ok (mc := 20) (ms := 866) (atype := .int) (ak := 0) (N := 2880) rfl (by decide) (by decide) (by decide) (by intro C hC; cases hC) ka_int (by decide) (by decide) (by decide) dq_MO_init_136 ?_
  rw [n16]
  have t16 : fx_s (fx_nw (mi16 h p) (.inr (0, 2880))) p = some (.inl 10) := (nw_o n16 (Nat.lt_add_of_pos_right (by decide))).trans s16
  refine fx_putr ok fp_MO_59 t16 (fun _ => rfl) dq_MO_init_138 (by decide) ?_
  refine fx_eqh (h' := mi17 h p) rfl ?_
  have s17 : fx_s (mi17 h p) p = some (.inl 10) := (fx_s_wr _ _ _ _ _).trans t16
  have n17 : fx_n (mi17 h p) = p + 18 := (fx_n_wr _ _ _ _).trans ((fx_n_nw _ _).trans (congrArg (· + 1) n16))
  refine fx_aload_n 0 dq_MO_init_141 rfl rfl ?_
  refine fx_bipush (v := 96) dq_MO_init_142 (by decide) ?_
  refine fx_newa ok (mc := 19) (ms := 770) (atype := .int) (ak := 0) (N := 96) rfl (by decide) (by decide) (by decide) (by intro C hC; cases hC) ka_int (by decide) (by decide) (by decide) dq_MO_init_144 ?_
  rw [n17]
  have t17 : fx_s (fx_nw (mi17 h p) (.inr (0, 96))) p = some (.inl 10) := (nw_o n17 (Nat.lt_add_of_pos_right (by decide))).trans s17
  refine fx_putr ok fp_MO_62 t17 (fun _ => rfl) dq_MO_init_146 (by decide) ?_
  refine fx_eqh (h' := mi18 h p) rfl ?_
  have s18 : fx_s (mi18 h p) p = some (.inl 10) := (fx_s_wr _ _ _ _ _).trans t17
  have n18 : fx_n (mi18 h p) = p + 19 := (fx_n_wr _ _ _ _).trans ((fx_n_nw _ _).trans (congrArg (· + 1) n17))
  refine fx_aload_n 0 dq_MO_init_149 rfl rfl ?_
  refine fx_iconst (v := 4) dq_MO_init_150 (by decide) ?_
  refine fx_newa ok (mc := 18) (ms := 766) (atype := .boolean) (ak := 1) (N := 4) rfl (by decide) (by decide) (by decide) (by intro C hC; cases hC) ka_boolean (by decide) (by decide) (by decide) dq_MO_init_151 ?_
  rw [n18]
  have t18 : fx_s (fx_nw (mi18 h p) (.inr (1, 4))) p = some (.inl 10) := (nw_o n18 (Nat.lt_add_of_pos_right (by decide))).trans s18
  refine fx_putr ok fp_MO_65 t18 (fun _ => rfl) dq_MO_init_153 (by decide) ?_
  refine fx_eqh (h' := mi19 h p) rfl ?_
  have s19 : fx_s (mi19 h p) p = some (.inl 10) := (fx_s_wr _ _ _ _ _).trans t18
  have n19 : fx_n (mi19 h p) = p + 20 := (fx_n_wr _ _ _ _).trans ((fx_n_nw _ _).trans (congrArg (· + 1) n18))
  refine fx_aload_n 0 dq_MO_init_156 rfl rfl ?_
  refine fx_iconst (v := 1) dq_MO_init_157 (by decide) ?_
  refine fx_puti ok fp_MO_68 s19 (by decide) dq_MO_init_158 (Or.inl (by decide)) ?_
  refine fx_eqh (h' := mi20 h p) rfl ?_
  have s20 : fx_s (mi20 h p) p = some (.inl 10) := (fx_s_wi _ _ _ _ _).trans s19
  have n20 : fx_n (mi20 h p) = p + 20 := (fx_n_wi _ _ _ _).trans n19
  refine fx_aload_n 0 dq_MO_init_161 rfl rfl ?_
  refine fx_sipush (v := 400) dq_MO_init_162 (by decide) ?_
  refine fx_newa ok (mc := 17) (ms := 366) (atype := .int) (ak := 0) (N := 400) rfl (by decide) (by decide) (by decide) (by intro C hC; cases hC) ka_int (by decide) (by decide) (by decide) dq_MO_init_165 ?_
  rw [n20]
  have t20 : fx_s (fx_nw (mi20 h p) (.inr (0, 400))) p = some (.inl 10) := (nw_o n20 (Nat.lt_add_of_pos_right (by decide))).trans s20
  refine fx_putr ok fp_MO_72 t20 (fun _ => rfl) dq_MO_init_167 (by decide) ?_
  refine fx_eqh (h' := mi21 h p) rfl ?_
  have s21 : fx_s (mi21 h p) p = some (.inl 10) := (fx_s_wr _ _ _ _ _).trans t20
  have n21 : fx_n (mi21 h p) = p + 21 := (fx_n_wr _ _ _ _).trans ((fx_n_nw _ _).trans (congrArg (· + 1) n20))
  refine fx_aload_n 0 dq_MO_init_170 rfl rfl ?_
  refine fx_iconst (v := 2) dq_MO_init_171 (by decide) ?_
  refine fx_newa ok (mc := 16) (ms := 364) (atype := .int) (ak := 0) (N := 2) rfl (by decide) (by decide) (by decide) (by intro C hC; cases hC) ka_int (by decide) (by decide) (by decide) dq_MO_init_172 ?_
  rw [n21]
  have t21 : fx_s (fx_nw (mi21 h p) (.inr (0, 2))) p = some (.inl 10) := (nw_o n21 (Nat.lt_add_of_pos_right (by decide))).trans s21
  refine fx_putr ok fp_MO_75 t21 (fun _ => rfl) dq_MO_init_174 (by decide) ?_
  refine fx_eqh (h' := mi22 h p) rfl ?_
  have s22 : fx_s (mi22 h p) p = some (.inl 10) := (fx_s_wr _ _ _ _ _).trans t21
  have n22 : fx_n (mi22 h p) = p + 22 := (fx_n_wr _ _ _ _).trans ((fx_n_nw _ _).trans (congrArg (· + 1) n21))
  refine fx_aload_n 0 dq_MO_init_177 rfl rfl ?_
  refine fx_bipush (v := 14) dq_MO_init_178 (by decide) ?_
  refine fx_newa ok (mc := 15) (ms := 350) (atype := .int) (ak := 0) (N := 14) rfl (by decide) (by decide) (by decide) (by intro C hC; cases hC) ka_int (by decide) (by decide) (by decide) dq_MO_init_180 ?_
  rw [n22]
  have t22 : fx_s (fx_nw (mi22 h p) (.inr (0, 14))) p = some (.inl 10) := (nw_o n22 (Nat.lt_add_of_pos_right (by decide))).trans s22
  refine fx_putr ok fp_MO_78 t22 (fun _ => rfl) dq_MO_init_182 (by decide) ?_
  refine fx_eqh (h' := mi23 h p) rfl ?_
  have s23 : fx_s (mi23 h p) p = some (.inl 10) := (fx_s_wr _ _ _ _ _).trans t22
  have n23 : fx_n (mi23 h p) = p + 23 := (fx_n_wr _ _ _ _).trans ((fx_n_nw _ _).trans (congrArg (· + 1) n22))
  refine fx_aload_n 0 dq_MO_init_185 rfl rfl ?_
  refine fx_bipush (v := 14) dq_MO_init_186 (by decide) ?_
  refine fx_newa ok (mc := 14) (ms := 336) (atype := .int) (ak := 0) (N := 14) rfl (by decide) (by decide) (by decide) (by intro C hC; cases hC) ka_int (by decide) (by decide) (by decide) dq_MO_init_188 ?_
  rw [n23]
  have t23 : fx_s (fx_nw (mi23 h p) (.inr (0, 14))) p = some (.inl 10) := (nw_o n23 (Nat.lt_add_of_pos_right (by decide))).trans s23
  refine fx_putr ok fp_MO_81 t23 (fun _ => rfl) dq_MO_init_190 (by decide) ?_
  refine fx_eqh (h' := mi24 h p) rfl ?_
  have s24 : fx_s (mi24 h p) p = some (.inl 10) := (fx_s_wr _ _ _ _ _).trans t23
  have n24 : fx_n (mi24 h p) = p + 24 := (fx_n_wr _ _ _ _).trans ((fx_n_nw _ _).trans (congrArg (· + 1) n23))
  refine fx_aload_n 0 dq_MO_init_193 rfl rfl ?_
  refine fx_bipush (v := 14) dq_MO_init_194 (by decide) ?_
  refine fx_newa ok (mc := 13) (ms := 322) (atype := .int) (ak := 0) (N := 14) rfl (by decide) (by decide) (by decide) (by intro C hC; cases hC) ka_int (by decide) (by decide) (by decide) dq_MO_init_196 ?_
  rw [n24]
  have t24 : fx_s (fx_nw (mi24 h p) (.inr (0, 14))) p = some (.inl 10) := (nw_o n24 (Nat.lt_add_of_pos_right (by decide))).trans s24
  refine fx_putr ok fp_MO_84 t24 (fun _ => rfl) dq_MO_init_198 (by decide) ?_
  refine fx_eqh (h' := mi25 h p) rfl ?_
  have s25 : fx_s (mi25 h p) p = some (.inl 10) := (fx_s_wr _ _ _ _ _).trans t24
  have n25 : fx_n (mi25 h p) = p + 25 := (fx_n_wr _ _ _ _).trans ((fx_n_nw _ _).trans (congrArg (· + 1) n24))
  refine fx_aload_n 0 dq_MO_init_201 rfl rfl ?_
  refine fx_bipush (v := 14) dq_MO_init_202 (by decide) ?_
  refine fx_newa ok (mc := 12) (ms := 308) (atype := .int) (ak := 0) (N := 14) rfl (by decide) (by decide) (by decide) (by intro C hC; cases hC) ka_int (by decide) (by decide) (by decide) dq_MO_init_204 ?_
  rw [n25]
  have t25 : fx_s (fx_nw (mi25 h p) (.inr (0, 14))) p = some (.inl 10) := (nw_o n25 (Nat.lt_add_of_pos_right (by decide))).trans s25
  refine fx_putr ok fp_MO_87 t25 (fun _ => rfl) dq_MO_init_206 (by decide) ?_
  refine fx_eqh (h' := mi26 h p) rfl ?_
  have s26 : fx_s (mi26 h p) p = some (.inl 10) := (fx_s_wr _ _ _ _ _).trans t25
  have n26 : fx_n (mi26 h p) = p + 26 := (fx_n_wr _ _ _ _).trans ((fx_n_nw _ _).trans (congrArg (· + 1) n25))
  refine fx_aload_n 0 dq_MO_init_209 rfl rfl ?_
  refine fx_iconst (v := 2) dq_MO_init_210 (by decide) ?_
  refine fx_newa ok (mc := 11) (ms := 306) (atype := .int) (ak := 0) (N := 2) rfl (by decide) (by decide) (by decide) (by intro C hC; cases hC) ka_int (by decide) (by decide) (by decide) dq_MO_init_211 ?_
  rw [n26]
  have t26 : fx_s (fx_nw (mi26 h p) (.inr (0, 2))) p = some (.inl 10) := (nw_o n26 (Nat.lt_add_of_pos_right (by decide))).trans s26
  refine fx_putr ok fp_MO_90 t26 (fun _ => rfl) dq_MO_init_213 (by decide) ?_
  refine fx_eqh (h' := mi27 h p) rfl ?_
  have s27 : fx_s (mi27 h p) p = some (.inl 10) := (fx_s_wr _ _ _ _ _).trans t26
  have n27 : fx_n (mi27 h p) = p + 27 := (fx_n_wr _ _ _ _).trans ((fx_n_nw _ _).trans (congrArg (· + 1) n26))
  have u27 : fx_s (mi27 h p) (p + 26) = some (.inr (0, 2)) := (fx_s_wr _ _ _ _ _).trans (nw_s _ _ n26)
  have r27 : fx_r (mi27 h p) p 30 = some (p + 26) := (fx_r_wr _ _ _ _ _ _).trans (if_pos ⟨rfl, rfl⟩)
  refine fx_aload_n 0 dq_MO_init_216 rfl rfl ?_
  refine fx_bipush (v := 10) dq_MO_init_217 (by decide) ?_
  refine fx_newa ok (mc := 10) (ms := 296) (atype := .int) (ak := 0) (N := 10) rfl (by decide) (by decide) (by decide) (by intro C hC; cases hC) ka_int (by decide) (by decide) (by decide) dq_MO_init_219 ?_
  rw [n27]
  have t27 : fx_s (fx_nw (mi27 h p) (.inr (0, 10))) p = some (.inl 10) := (nw_o n27 (Nat.lt_add_of_pos_right (by decide))).trans s27
  refine fx_putr ok fp_MO_93 t27 (fun _ => rfl) dq_MO_init_221 (by decide) ?_
  refine fx_eqh (h' := mi28 h p) rfl ?_
  have s28 : fx_s (mi28 h p) p = some (.inl 10) := (fx_s_wr _ _ _ _ _).trans t27
  have n28 : fx_n (mi28 h p) = p + 28 := (fx_n_wr _ _ _ _).trans ((fx_n_nw _ _).trans (congrArg (· + 1) n27))
  have u28 : fx_s (mi28 h p) (p + 26) = some (.inr (0, 2)) := (fx_s_wr _ _ _ _ _).trans ((nw_o n27 (Nat.add_lt_add_left (by decide) p)).trans u27)
  have r28 : fx_r (mi28 h p) p 30 = some (p + 26) := (fx_r_wr _ _ _ _ _ _).trans ((if_neg (fun z => absurd z.2 (by decide))).trans ((fx_r_nw _ _ _ _).trans ((if_neg (by rw [n27]; exact Nat.ne_of_lt (Nat.lt_add_of_pos_right (by decide)))).trans r27)))
  refine fx_aload_n 0 dq_MO_init_224 rfl rfl ?_
  refine fx_bipush (v := 10) dq_MO_init_225 (by decide) ?_
  refine fx_newa ok (mc := 9) (ms := 286) (atype := .int) (ak := 0) (N := 10) rfl (by decide) (by decide) (by decide) (by intro C hC; cases hC) ka_int (by decide) (by decide) (by decide) dq_MO_init_227 ?_
  rw [n28]
  have t28 : fx_s (fx_nw (mi28 h p) (.inr (0, 10))) p = some (.inl 10) := (nw_o n28 (Nat.lt_add_of_pos_right (by decide))).trans s28
  refine fx_putr ok fp_MO_96 t28 (fun _ => rfl) dq_MO_init_229 (by decide) ?_
  refine fx_eqh (h' := mi29 h p) rfl ?_
  have s29 : fx_s (mi29 h p) p = some (.inl 10) := (fx_s_wr _ _ _ _ _).trans t28
  have n29 : fx_n (mi29 h p) = p + 29 := (fx_n_wr _ _ _ _).trans ((fx_n_nw _ _).trans (congrArg (· + 1) n28))
  have u29 : fx_s (mi29 h p) (p + 26) = some (.inr (0, 2)) := (fx_s_wr _ _ _ _ _).trans ((nw_o n28 (Nat.add_lt_add_left (by decide) p)).trans u28)
  have r29 : fx_r (mi29 h p) p 30 = some (p + 26) := (fx_r_wr _ _ _ _ _ _).trans ((if_neg (fun z => absurd z.2 (by decide))).trans ((fx_r_nw _ _ _ _).trans ((if_neg (by rw [n28]; exact Nat.ne_of_lt (Nat.lt_add_of_pos_right (by decide)))).trans r28)))
  refine fx_aload_n 0 dq_MO_init_232 rfl rfl ?_
  refine fx_bipush (v := 10) dq_MO_init_233 (by decide) ?_
  refine fx_newa ok (mc := 8) (ms := 276) (atype := .int) (ak := 0) (N := 10) rfl (by decide) (by decide) (by decide) (by intro C hC; cases hC) ka_int (by decide) (by decide) (by decide) dq_MO_init_235 ?_
  rw [n29]
  have t29 : fx_s (fx_nw (mi29 h p) (.inr (0, 10))) p = some (.inl 10) := (nw_o n29 (Nat.lt_add_of_pos_right (by decide))).trans s29
  refine fx_putr ok fp_MO_99 t29 (fun _ => rfl) dq_MO_init_237 (by decide) ?_
  refine fx_eqh (h' := mi30 h p) rfl ?_
  have s30 : fx_s (mi30 h p) p = some (.inl 10) := (fx_s_wr _ _ _ _ _).trans t29
  have n30 : fx_n (mi30 h p) = p + 30 := (fx_n_wr _ _ _ _).trans ((fx_n_nw _ _).trans (congrArg (· + 1) n29))
  have u30 : fx_s (mi30 h p) (p + 26) = some (.inr (0, 2)) := (fx_s_wr _ _ _ _ _).trans ((nw_o n29 (Nat.add_lt_add_left (by decide) p)).trans u29)
  have r30 : fx_r (mi30 h p) p 30 = some (p + 26) := (fx_r_wr _ _ _ _ _ _).trans ((if_neg (fun z => absurd z.2 (by decide))).trans ((fx_r_nw _ _ _ _).trans ((if_neg (by rw [n29]; exact Nat.ne_of_lt (Nat.lt_add_of_pos_right (by decide)))).trans r29)))
  refine fx_aload_n 0 dq_MO_init_240 rfl rfl ?_
  refine fx_bipush (v := 10) dq_MO_init_241 (by decide) ?_
  refine fx_newa ok (mc := 7) (ms := 266) (atype := .int) (ak := 0) (N := 10) rfl (by decide) (by decide) (by decide) (by intro C hC; cases hC) ka_int (by decide) (by decide) (by decide) dq_MO_init_243 ?_
  rw [n30]
  have t30 : fx_s (fx_nw (mi30 h p) (.inr (0, 10))) p = some (.inl 10) := (nw_o n30 (Nat.lt_add_of_pos_right (by decide))).trans s30
  refine fx_putr ok fp_MO_102 t30 (fun _ => rfl) dq_MO_init_245 (by decide) ?_
  refine fx_eqh (h' := mi31 h p) rfl ?_
  have s31 : fx_s (mi31 h p) p = some (.inl 10) := (fx_s_wr _ _ _ _ _).trans t30
  have n31 : fx_n (mi31 h p) = p + 31 := (fx_n_wr _ _ _ _).trans ((fx_n_nw _ _).trans (congrArg (· + 1) n30))
  have u31 : fx_s (mi31 h p) (p + 26) = some (.inr (0, 2)) := (fx_s_wr _ _ _ _ _).trans ((nw_o n30 (Nat.add_lt_add_left (by decide) p)).trans u30)
  have r31 : fx_r (mi31 h p) p 30 = some (p + 26) := (fx_r_wr _ _ _ _ _ _).trans ((if_neg (fun z => absurd z.2 (by decide))).trans ((fx_r_nw _ _ _ _).trans ((if_neg (by rw [n30]; exact Nat.ne_of_lt (Nat.lt_add_of_pos_right (by decide)))).trans r30)))
  refine fx_aload_n 0 dq_MO_init_248 rfl rfl ?_
  refine fx_bipush (v := 10) dq_MO_init_249 (by decide) ?_
  refine fx_newa ok (mc := 6) (ms := 256) (atype := .boolean) (ak := 1) (N := 10) rfl (by decide) (by decide) (by decide) (by intro C hC; cases hC) ka_boolean (by decide) (by decide) (by decide) dq_MO_init_251 ?_
  rw [n31]
  have t31 : fx_s (fx_nw (mi31 h p) (.inr (1, 10))) p = some (.inl 10) := (nw_o n31 (Nat.lt_add_of_pos_right (by decide))).trans s31
  refine fx_putr ok fp_MO_105 t31 (fun _ => rfl) dq_MO_init_253 (by decide) ?_
  refine fx_eqh (h' := mi32 h p) rfl ?_
  have s32 : fx_s (mi32 h p) p = some (.inl 10) := (fx_s_wr _ _ _ _ _).trans t31
  have n32 : fx_n (mi32 h p) = p + 32 := (fx_n_wr _ _ _ _).trans ((fx_n_nw _ _).trans (congrArg (· + 1) n31))
  have u32 : fx_s (mi32 h p) (p + 26) = some (.inr (0, 2)) := (fx_s_wr _ _ _ _ _).trans ((nw_o n31 (Nat.add_lt_add_left (by decide) p)).trans u31)
  have r32 : fx_r (mi32 h p) p 30 = some (p + 26) := (fx_r_wr _ _ _ _ _ _).trans ((if_neg (fun z => absurd z.2 (by decide))).trans ((fx_r_nw _ _ _ _).trans ((if_neg (by rw [n31]; exact Nat.ne_of_lt (Nat.lt_add_of_pos_right (by decide)))).trans r31)))
  refine fx_aload_n 0 dq_MO_init_256 rfl rfl ?_
  refine fx_iconst (v := 2) dq_MO_init_257 (by decide) ?_
  refine fx_newa ok (mc := 5) (ms := 254) (atype := .int) (ak := 0) (N := 2) rfl (by decide) (by decide) (by decide) (by intro C hC; cases hC) ka_int (by decide) (by decide) (by decide) dq_MO_init_258 ?_
  rw [n32]
  have t32 : fx_s (fx_nw (mi32 h p) (.inr (0, 2))) p = some (.inl 10) := (nw_o n32 (Nat.lt_add_of_pos_right (by decide))).trans s32
  refine fx_putr ok fp_MO_108 t32 (fun _ => rfl) dq_MO_init_260 (by decide) ?_
  refine fx_eqh (h' := mi33 h p) rfl ?_
  have s33 : fx_s (mi33 h p) p = some (.inl 10) := (fx_s_wr _ _ _ _ _).trans t32
  have n33 : fx_n (mi33 h p) = p + 33 := (fx_n_wr _ _ _ _).trans ((fx_n_nw _ _).trans (congrArg (· + 1) n32))
  have u33 : fx_s (mi33 h p) (p + 26) = some (.inr (0, 2)) := (fx_s_wr _ _ _ _ _).trans ((nw_o n32 (Nat.add_lt_add_left (by decide) p)).trans u32)
  have r33 : fx_r (mi33 h p) p 30 = some (p + 26) := (fx_r_wr _ _ _ _ _ _).trans ((if_neg (fun z => absurd z.2 (by decide))).trans ((fx_r_nw _ _ _ _).trans ((if_neg (by rw [n32]; exact Nat.ne_of_lt (Nat.lt_add_of_pos_right (by decide)))).trans r32)))
  refine fx_aload_n 0 dq_MO_init_263 rfl rfl ?_
  refine fx_iconst (v := 2) dq_MO_init_264 (by decide) ?_
  refine fx_newa ok (mc := 4) (ms := 252) (atype := .int) (ak := 0) (N := 2) rfl (by decide) (by decide) (by decide) (by intro C hC; cases hC) ka_int (by decide) (by decide) (by decide) dq_MO_init_265 ?_
  rw [n33]
  have t33 : fx_s (fx_nw (mi33 h p) (.inr (0, 2))) p = some (.inl 10) := (nw_o n33 (Nat.lt_add_of_pos_right (by decide))).trans s33
  refine fx_putr ok fp_MO_111 t33 (fun _ => rfl) dq_MO_init_267 (by decide) ?_
  refine fx_eqh (h' := mi34 h p) rfl ?_
  have s34 : fx_s (mi34 h p) p = some (.inl 10) := (fx_s_wr _ _ _ _ _).trans t33
  have n34 : fx_n (mi34 h p) = p + 34 := (fx_n_wr _ _ _ _).trans ((fx_n_nw _ _).trans (congrArg (· + 1) n33))
  have u34 : fx_s (mi34 h p) (p + 26) = some (.inr (0, 2)) := (fx_s_wr _ _ _ _ _).trans ((nw_o n33 (Nat.add_lt_add_left (by decide) p)).trans u33)
  have r34 : fx_r (mi34 h p) p 30 = some (p + 26) := (fx_r_wr _ _ _ _ _ _).trans ((if_neg (fun z => absurd z.2 (by decide))).trans ((fx_r_nw _ _ _ _).trans ((if_neg (by rw [n33]; exact Nat.ne_of_lt (Nat.lt_add_of_pos_right (by decide)))).trans r33)))
  refine fx_aload_n 0 dq_MO_init_270 rfl rfl ?_
  refine fx_iconst (v := 2) dq_MO_init_271 (by decide) ?_
  refine fx_newa ok (mc := 3) (ms := 250) (atype := .int) (ak := 0) (N := 2) rfl (by decide) (by decide) (by decide) (by intro C hC; cases hC) ka_int (by decide) (by decide) (by decide) dq_MO_init_272 ?_
  rw [n34]
  have t34 : fx_s (fx_nw (mi34 h p) (.inr (0, 2))) p = some (.inl 10) := (nw_o n34 (Nat.lt_add_of_pos_right (by decide))).trans s34
  refine fx_putr ok fp_MO_114 t34 (fun _ => rfl) dq_MO_init_274 (by decide) ?_
  refine fx_eqh (h' := mi35 h p) rfl ?_
  have s35 : fx_s (mi35 h p) p = some (.inl 10) := (fx_s_wr _ _ _ _ _).trans t34
  have n35 : fx_n (mi35 h p) = p + 35 := (fx_n_wr _ _ _ _).trans ((fx_n_nw _ _).trans (congrArg (· + 1) n34))
  have u35 : fx_s (mi35 h p) (p + 26) = some (.inr (0, 2)) := (fx_s_wr _ _ _ _ _).trans ((nw_o n34 (Nat.add_lt_add_left (by decide) p)).trans u34)
  have r35 : fx_r (mi35 h p) p 30 = some (p + 26) := (fx_r_wr _ _ _ _ _ _).trans ((if_neg (fun z => absurd z.2 (by decide))).trans ((fx_r_nw _ _ _ _).trans ((if_neg (by rw [n34]; exact Nat.ne_of_lt (Nat.lt_add_of_pos_right (by decide)))).trans r34)))
  refine fx_aload_n 0 dq_MO_init_277 rfl rfl ?_
  refine fx_iconst (v := 2) dq_MO_init_278 (by decide) ?_
  refine fx_newa ok (mc := 2) (ms := 248) (atype := .int) (ak := 0) (N := 2) rfl (by decide) (by decide) (by decide) (by intro C hC; cases hC) ka_int (by decide) (by decide) (by decide) dq_MO_init_279 ?_
  rw [n35]
  have t35 : fx_s (fx_nw (mi35 h p) (.inr (0, 2))) p = some (.inl 10) := (nw_o n35 (Nat.lt_add_of_pos_right (by decide))).trans s35
  refine fx_putr ok fp_MO_117 t35 (fun _ => rfl) dq_MO_init_281 (by decide) ?_
  refine fx_eqh (h' := mi36 h p) rfl ?_
  have s36 : fx_s (mi36 h p) p = some (.inl 10) := (fx_s_wr _ _ _ _ _).trans t35
  have n36 : fx_n (mi36 h p) = p + 36 := (fx_n_wr _ _ _ _).trans ((fx_n_nw _ _).trans (congrArg (· + 1) n35))
  have u36 : fx_s (mi36 h p) (p + 26) = some (.inr (0, 2)) := (fx_s_wr _ _ _ _ _).trans ((nw_o n35 (Nat.add_lt_add_left (by decide) p)).trans u35)
  have r36 : fx_r (mi36 h p) p 30 = some (p + 26) := (fx_r_wr _ _ _ _ _ _).trans ((if_neg (fun z => absurd z.2 (by decide))).trans ((fx_r_nw _ _ _ _).trans ((if_neg (by rw [n35]; exact Nat.ne_of_lt (Nat.lt_add_of_pos_right (by decide)))).trans r35)))
  refine fx_aload_n 0 dq_MO_init_284 rfl rfl ?_
  refine fx_bipush (v := 48) dq_MO_init_285 (by decide) ?_
  refine fx_newa ok (mc := 1) (ms := 200) (atype := .int) (ak := 0) (N := 48) rfl (by decide) (by decide) (by decide) (by intro C hC; cases hC) ka_int (by decide) (by decide) (by decide) dq_MO_init_287 ?_
  rw [n36]
  have t36 : fx_s (fx_nw (mi36 h p) (.inr (0, 48))) p = some (.inl 10) := (nw_o n36 (Nat.lt_add_of_pos_right (by decide))).trans s36
  refine fx_putr ok fp_MO_120 t36 (fun _ => rfl) dq_MO_init_289 (by decide) ?_
  refine fx_eqh (h' := mi37 h p) rfl ?_
  have s37 : fx_s (mi37 h p) p = some (.inl 10) := (fx_s_wr _ _ _ _ _).trans t36
  have n37 : fx_n (mi37 h p) = p + 37 := (fx_n_wr _ _ _ _).trans ((fx_n_nw _ _).trans (congrArg (· + 1) n36))
  have u37 : fx_s (mi37 h p) (p + 26) = some (.inr (0, 2)) := (fx_s_wr _ _ _ _ _).trans ((nw_o n36 (Nat.add_lt_add_left (by decide) p)).trans u36)
  have r37 : fx_r (mi37 h p) p 30 = some (p + 26) := (fx_r_wr _ _ _ _ _ _).trans ((if_neg (fun z => absurd z.2 (by decide))).trans ((fx_r_nw _ _ _ _).trans ((if_neg (by rw [n36]; exact Nat.ne_of_lt (Nat.lt_add_of_pos_right (by decide)))).trans r36)))
  refine fx_aload_n 0 dq_MO_init_292 rfl rfl ?_
  refine fx_sipush (v := 200) dq_MO_init_293 (by decide) ?_
  refine fx_newa ok (mc := 0) (ms := 0) (atype := .int) (ak := 0) (N := 200) rfl (by decide) (by decide) (by decide) (by intro C hC; cases hC) ka_int (by decide) (by decide) (by decide) dq_MO_init_296 ?_
  rw [n37]
  have t37 : fx_s (fx_nw (mi37 h p) (.inr (0, 200))) p = some (.inl 10) := (nw_o n37 (Nat.lt_add_of_pos_right (by decide))).trans s37
  refine fx_putr ok fp_MO_123 t37 (fun _ => rfl) dq_MO_init_298 (by decide) ?_
  refine fx_eqh (h' := mi38 h p) rfl ?_
  have s38 : fx_s (mi38 h p) p = some (.inl 10) := (fx_s_wr _ _ _ _ _).trans t37
  have n38 : fx_n (mi38 h p) = p + 38 := (fx_n_wr _ _ _ _).trans ((fx_n_nw _ _).trans (congrArg (· + 1) n37))
  have u38 : fx_s (mi38 h p) (p + 26) = some (.inr (0, 2)) := (fx_s_wr _ _ _ _ _).trans ((nw_o n37 (Nat.add_lt_add_left (by decide) p)).trans u37)
  have r38 : fx_r (mi38 h p) p 30 = some (p + 26) := (fx_r_wr _ _ _ _ _ _).trans ((if_neg (fun z => absurd z.2 (by decide))).trans ((fx_r_nw _ _ _ _).trans ((if_neg (by rw [n37]; exact Nat.ne_of_lt (Nat.lt_add_of_pos_right (by decide)))).trans r37)))
  refine fx_aload_n 0 dq_MO_init_301 rfl rfl ?_
  refine fx_getr ok fq_MO_90 s38 dq_MO_init_302 (by decide) r38 ?_
  refine fx_iconst (v := 0) dq_MO_init_305 (by decide) ?_
  refine fx_iconst (v := -1) dq_MO_init_306 (by decide) ?_
  refine fx_iastore ok u38 (by unfold vp_in; decide) dq_MO_init_307 ?_
  refine fx_eqh (h' := mi39 h p) rfl ?_
  have s39 : fx_s (mi39 h p) p = some (.inl 10) := (fx_s_wi _ _ _ _ _).trans s38
  have u39 : fx_s (mi39 h p) (p + 26) = some (.inr (0, 2)) := (fx_s_wi _ _ _ _ _).trans u38
  have r39 : fx_r (mi39 h p) p 30 = some (p + 26) := (fx_r_wi _ _ _ _ _ _).trans r38
  refine fx_aload_n 0 dq_MO_init_308 rfl rfl ?_
  refine fx_getr ok fq_MO_90 s39 dq_MO_init_309 (by decide) r39 ?_
  refine fx_iconst (v := 1) dq_MO_init_312 (by decide) ?_
  refine fx_iconst (v := -1) dq_MO_init_313 (by decide) ?_
  refine fx_iastore ok u39 (by unfold vp_in; decide) dq_MO_init_314 ?_
  refine fx_eqh (h' := mi40 h p) rfl ?_
  have s40 : fx_s (mi40 h p) p = some (.inl 10) := (fx_s_wi _ _ _ _ _).trans s39
  have u40 : fx_s (mi40 h p) (p + 26) = some (.inr (0, 2)) := (fx_s_wi _ _ _ _ _).trans u39
  have r40 : fx_r (mi40 h p) p 30 = some (p + 26) := (fx_r_wi _ _ _ _ _ _).trans r39
  exact fx_vreturn rfl dq_MO_init_315 ⟨rfl, rfl⟩
