def u_0_0 := zu_aload_n 0 0 1 0 0 rfl (by decide +kernel) rfl
def u_0_1 := zu_obj 0 1 4 3 (by decide +kernel) (by decide +kernel) (by decide +kernel) (by decide +kernel) rfl
def u_0_4 := zu_aload_n 0 4 5 0 0 rfl (by decide +kernel) rfl
def u_0_5 := zu_new 0 5 8 9 4 3 [.int 0, .null, .int 0] (by decide +kernel) (by decide +kernel) (by decide +kernel) (by decide +kernel) rfl
def u_0_8i := zu_dup_i 0 8 9 (by decide +kernel) rfl
def u_0_8r := zu_dup_r 0 8 9 (by decide +kernel) rfl
def u_0_8n := zu_dup_n 0 8 9 (by decide +kernel) rfl
def u_0_9 := zu_sipush 0 9 12 512 512 (by decide) (by decide +kernel) rfl
theorem u_0_12 (G : zk_G) (L : zk_L) (st : List Value) (h : zk_H) (Q : Option Value → zk_H → Prop) (b : Nat) (x1 : Int32) : zk_wp G 0 12 L (.int x1 :: .ref b :: st) h Q ↔ (zk_sum st ≤ 8 ∧ zk_wp G 17 0 [some (.ref b), some (.int x1)] [] h (fun r h' => zk_wp G 0 15 L (r.toList ++ st) h' Q)) := zu_spec (i := 11) (k := 2) (As := [.int x1]) (by decide +kernel) (by decide +kernel) (by decide +kernel) (by decide +kernel) (show zk_na 17 = 1 from by decide +kernel) (by decide +kernel) (Nat.le_of_ble_eq_true rfl) rfl rfl rfl
def u_0_15 := zu_put 0 15 18 14 false 0 1 (.object "TickKeeper$Row") (by decide +kernel) (by decide +kernel) (by decide +kernel) (by decide +kernel) rfl
def u_0_18 := zu_aload_n 0 18 19 0 0 rfl (by decide +kernel) rfl
def u_0_19 := zu_new 0 19 22 9 4 3 [.int 0, .null, .int 0] (by decide +kernel) (by decide +kernel) (by decide +kernel) (by decide +kernel) rfl
def u_0_22i := zu_dup_i 0 22 23 (by decide +kernel) rfl
def u_0_22r := zu_dup_r 0 22 23 (by decide +kernel) rfl
def u_0_22n := zu_dup_n 0 22 23 (by decide +kernel) rfl
def u_0_23 := zu_sipush 0 23 26 512 512 (by decide) (by decide +kernel) rfl
theorem u_0_26 (G : zk_G) (L : zk_L) (st : List Value) (h : zk_H) (Q : Option Value → zk_H → Prop) (b : Nat) (x1 : Int32) : zk_wp G 0 26 L (.int x1 :: .ref b :: st) h Q ↔ (zk_sum st ≤ 8 ∧ zk_wp G 17 0 [some (.ref b), some (.int x1)] [] h (fun r h' => zk_wp G 0 29 L (r.toList ++ st) h' Q)) := zu_spec (i := 11) (k := 2) (As := [.int x1]) (by decide +kernel) (by decide +kernel) (by decide +kernel) (by decide +kernel) (show zk_na 17 = 1 from by decide +kernel) (by decide +kernel) (Nat.le_of_ble_eq_true rfl) rfl rfl rfl
def u_0_29 := zu_put 0 29 32 20 false 0 2 (.object "TickKeeper$Row") (by decide +kernel) (by decide +kernel) (by decide +kernel) (by decide +kernel) rfl
def u_0_32 := zu_aload_n 0 32 33 0 0 rfl (by decide +kernel) rfl
def u_0_33 := zu_aload_n 0 33 34 1 1 rfl (by decide +kernel) rfl
def u_0_34 := zu_put 0 34 37 23 false 0 0 (.object "TickKeeper$Rule") (by decide +kernel) (by decide +kernel) (by decide +kernel) (by decide +kernel) rfl
def u_0_37 := zu_vret 0 37 (by decide +kernel) (by decide +kernel)
def u_1_0 := zu_aload_n 1 0 1 0 0 rfl (by decide +kernel) rfl
def u_1_1 := zu_get 1 1 4 14 false 0 1 (by decide +kernel) (by decide +kernel) rfl
def u_1_4 := zu_get 1 4 7 34 true 4 2 (by decide +kernel) (by decide +kernel) rfl
def u_1_7 := zu_if_ne 1 7 14 10 (7) (by decide +kernel) rfl rfl
def u_1_10 := zu_iconst 1 10 11 (-1) (-1) (by decide) (by decide +kernel) rfl
def u_1_11 := zu_goto 1 11 30 (19) (by decide +kernel) rfl
def u_1_14 := zu_aload_n 1 14 15 0 0 rfl (by decide +kernel) rfl
def u_1_15 := zu_get 1 15 18 14 false 0 1 (by decide +kernel) (by decide +kernel) rfl
def u_1_18 := zu_aload_n 1 18 19 0 0 rfl (by decide +kernel) rfl
def u_1_19 := zu_get 1 19 22 14 false 0 1 (by decide +kernel) (by decide +kernel) rfl
def u_1_22 := zu_get 1 22 25 34 true 4 2 (by decide +kernel) (by decide +kernel) rfl
def u_1_25 := zu_iconst 1 25 26 1 1 (by decide) (by decide +kernel) rfl
def u_1_26 := zu_isub 1 26 27 (by decide +kernel) rfl
theorem u_1_27 (G : zk_G) (L : zk_L) (st : List Value) (h : zk_H) (Q : Option Value → zk_H → Prop) (b : Nat) (x1 : Int32) : zk_wp G 1 27 L (.int x1 :: .ref b :: st) h Q ↔ (zk_ic G h b 4 ∧ zk_sum st ≤ 8 ∧ zk_wp G 19 0 [some (.ref b), some (.int x1)] [] h (fun r h' => zk_wp G 1 30 L (r.toList ++ st) h' Q)) := zu_virt (i := 37) (As := [.int x1]) (by decide +kernel) (by decide +kernel) (show zk_na 19 = 1 from by decide +kernel) (by decide +kernel) (Nat.le_of_ble_eq_true rfl) (by decide +kernel) rfl rfl rfl
def u_1_30 := zu_iret 1 30 (by decide +kernel) (by decide +kernel)
def u_2_0 := zu_aload_n 2 0 1 0 0 rfl (by decide +kernel) rfl
def u_2_1 := zu_get 2 1 4 20 false 0 2 (by decide +kernel) (by decide +kernel) rfl
def u_2_4 := zu_aload_n 2 4 5 0 0 rfl (by decide +kernel) rfl
def u_2_5 := zu_get 2 5 8 20 false 0 2 (by decide +kernel) (by decide +kernel) rfl
def u_2_8 := zu_get 2 8 11 34 true 4 2 (by decide +kernel) (by decide +kernel) rfl
def u_2_11 := zu_iconst 2 11 12 1 1 (by decide) (by decide +kernel) rfl
def u_2_12 := zu_isub 2 12 13 (by decide +kernel) rfl
theorem u_2_13 (G : zk_G) (L : zk_L) (st : List Value) (h : zk_H) (Q : Option Value → zk_H → Prop) (b : Nat) (x1 : Int32) : zk_wp G 2 13 L (.int x1 :: .ref b :: st) h Q ↔ (zk_ic G h b 4 ∧ zk_sum st ≤ 8 ∧ zk_wp G 19 0 [some (.ref b), some (.int x1)] [] h (fun r h' => zk_wp G 2 16 L (r.toList ++ st) h' Q)) := zu_virt (i := 37) (As := [.int x1]) (by decide +kernel) (by decide +kernel) (show zk_na 19 = 1 from by decide +kernel) (by decide +kernel) (Nat.le_of_ble_eq_true rfl) (by decide +kernel) rfl rfl rfl
def u_2_16 := zu_istore_n 2 16 17 3 3 rfl (by decide +kernel) rfl
def u_2_17 := zu_iload_n 2 17 18 2 2 rfl (by decide +kernel) rfl
def u_2_18 := zu_iload_n 2 18 19 3 3 rfl (by decide +kernel) rfl
def u_2_19 := zu_icmp_le 2 19 30 22 (11) (by decide +kernel) rfl rfl
def u_2_22 := zu_iload_n 2 22 23 1 1 rfl (by decide +kernel) rfl
def u_2_23 := zu_aload_n 2 23 24 0 0 rfl (by decide +kernel) rfl
theorem u_2_24 (G : zk_G) (L : zk_L) (st : List Value) (h : zk_H) (Q : Option Value → zk_H → Prop) (b : Nat)  : zk_wp G 2 24 L (.ref b :: st) h Q ↔ (zk_ic G h b 0 ∧ zk_sum st ≤ 8 ∧ zk_wp G 1 0 [some (.ref b)] [] h (fun r h' => zk_wp G 2 27 L (r.toList ++ st) h' Q)) := zu_virt (i := 41) (As := []) (by decide +kernel) (by decide +kernel) (show zk_na 1 = 0 from by decide +kernel) (by decide +kernel) (Nat.le_of_ble_eq_true rfl) (by decide +kernel) rfl rfl rfl
def u_2_27 := zu_icmp_gt 2 27 32 30 (5) (by decide +kernel) rfl rfl
def u_2_30 := zu_iconst 2 30 31 0 0 (by decide) (by decide +kernel) rfl
def u_2_31 := zu_zret 2 31 (by decide +kernel) (by decide +kernel)
def u_2_32 := zu_aload_n 2 32 33 0 0 rfl (by decide +kernel) rfl
def u_2_33 := zu_get 2 33 36 14 false 0 1 (by decide +kernel) (by decide +kernel) rfl
def u_2_36 := zu_iload_n 2 36 37 1 1 rfl (by decide +kernel) rfl
theorem u_2_37 (G : zk_G) (L : zk_L) (st : List Value) (h : zk_H) (Q : Option Value → zk_H → Prop) (b : Nat) (x1 : Int32) : zk_wp G 2 37 L (.int x1 :: .ref b :: st) h Q ↔ (zk_ic G h b 4 ∧ zk_sum st ≤ 8 ∧ zk_wp G 18 0 [some (.ref b), some (.int x1)] [] h (fun r h' => zk_wp G 2 40 L (r.toList ++ st) h' Q)) := zu_virt (i := 45) (As := [.int x1]) (by decide +kernel) (by decide +kernel) (show zk_na 18 = 1 from by decide +kernel) (by decide +kernel) (Nat.le_of_ble_eq_true rfl) (by decide +kernel) rfl rfl rfl
def u_2_40 := zu_if_eq 2 40 58 43 (18) (by decide +kernel) rfl rfl
def u_2_43 := zu_aload_n 2 43 44 0 0 rfl (by decide +kernel) rfl
def u_2_44 := zu_get 2 44 47 20 false 0 2 (by decide +kernel) (by decide +kernel) rfl
def u_2_47 := zu_iload_n 2 47 48 2 2 rfl (by decide +kernel) rfl
theorem u_2_48 (G : zk_G) (L : zk_L) (st : List Value) (h : zk_H) (Q : Option Value → zk_H → Prop) (b : Nat) (x1 : Int32) : zk_wp G 2 48 L (.int x1 :: .ref b :: st) h Q ↔ (zk_ic G h b 4 ∧ zk_sum st ≤ 8 ∧ zk_wp G 18 0 [some (.ref b), some (.int x1)] [] h (fun r h' => zk_wp G 2 51 L (r.toList ++ st) h' Q)) := zu_virt (i := 45) (As := [.int x1]) (by decide +kernel) (by decide +kernel) (show zk_na 18 = 1 from by decide +kernel) (by decide +kernel) (Nat.le_of_ble_eq_true rfl) (by decide +kernel) rfl rfl rfl
def u_2_51 := zu_if_eq 2 51 58 54 (7) (by decide +kernel) rfl rfl
def u_2_54 := zu_iconst 2 54 55 1 1 (by decide) (by decide +kernel) rfl
def u_2_55 := zu_goto 2 55 59 (4) (by decide +kernel) rfl
def u_2_58 := zu_iconst 2 58 59 0 0 (by decide) (by decide +kernel) rfl
def u_2_59 := zu_zret 2 59 (by decide +kernel) (by decide +kernel)
def u_3_0 := zu_aload_n 3 0 1 0 0 rfl (by decide +kernel) rfl
def u_3_1 := zu_get 3 1 4 27 false 0 3 (by decide +kernel) (by decide +kernel) rfl
def u_3_4 := zu_iconst 3 4 5 2 2 (by decide) (by decide +kernel) rfl
def u_3_5 := zu_icmp_ne 3 5 12 8 (7) (by decide +kernel) rfl rfl
def u_3_8 := zu_iconst 3 8 9 0 0 (by decide) (by decide +kernel) rfl
def u_3_9 := zu_goto 3 9 16 (7) (by decide +kernel) rfl
def u_3_12 := zu_aload_n 3 12 13 0 0 rfl (by decide +kernel) rfl
def u_3_13 := zu_get 3 13 16 31 false 0 4 (by decide +kernel) (by decide +kernel) rfl
def u_3_16 := zu_iret 3 16 (by decide +kernel) (by decide +kernel)
def u_4_0 := zu_iconst 4 0 1 0 0 (by decide) (by decide +kernel) rfl
def u_4_1 := zu_istore_n 4 1 2 2 2 rfl (by decide +kernel) rfl
def u_4_2 := zu_iload_n 4 2 3 2 2 rfl (by decide +kernel) rfl
def u_4_3 := zu_aload_n 4 3 4 0 0 rfl (by decide +kernel) rfl
def u_4_4 := zu_get 4 4 7 14 false 0 1 (by decide +kernel) (by decide +kernel) rfl
def u_4_7 := zu_get 4 7 10 34 true 4 2 (by decide +kernel) (by decide +kernel) rfl
def u_4_10 := zu_icmp_ge 4 10 43 13 (33) (by decide +kernel) rfl rfl
def u_4_13 := zu_aload_n 4 13 14 0 0 rfl (by decide +kernel) rfl
def u_4_14 := zu_get 4 14 17 23 false 0 0 (by decide +kernel) (by decide +kernel) rfl
def u_4_17 := zu_get 4 17 20 49 true 5 0 (by decide +kernel) (by decide +kernel) rfl
def u_4_20 := zu_aload_n 4 20 21 0 0 rfl (by decide +kernel) rfl
def u_4_21 := zu_get 4 21 24 14 false 0 1 (by decide +kernel) (by decide +kernel) rfl
def u_4_24 := zu_iload_n 4 24 25 2 2 rfl (by decide +kernel) rfl
theorem u_4_25 (G : zk_G) (L : zk_L) (st : List Value) (h : zk_H) (Q : Option Value → zk_H → Prop) (b : Nat) (x1 : Int32) : zk_wp G 4 25 L (.int x1 :: .ref b :: st) h Q ↔ (zk_ic G h b 4 ∧ zk_sum st ≤ 8 ∧ zk_wp G 19 0 [some (.ref b), some (.int x1)] [] h (fun r h' => zk_wp G 4 28 L (r.toList ++ st) h' Q)) := zu_virt (i := 37) (As := [.int x1]) (by decide +kernel) (by decide +kernel) (show zk_na 19 = 1 from by decide +kernel) (by decide +kernel) (Nat.le_of_ble_eq_true rfl) (by decide +kernel) rfl rfl rfl
theorem u_4_28 (G : zk_G) (L : zk_L) (st : List Value) (h : zk_H) (Q : Option Value → zk_H → Prop) (b : Nat) (x1 : Int32) : zk_wp G 4 28 L (.int x1 :: .ref b :: st) h Q ↔ (zk_ic G h b 7 ∧ zk_sum st ≤ 8 ∧ zk_wp G 56 0 [some (.ref b), some (.int x1)] [] h (fun r h' => zk_wp G 4 31 L (r.toList ++ st) h' Q)) := zu_virt (i := 55) (As := [.int x1]) (by decide +kernel) (by decide +kernel) (show zk_na 56 = 1 from by decide +kernel) (by decide +kernel) (Nat.le_of_ble_eq_true rfl) (by decide +kernel) rfl rfl rfl
def u_4_31 := zu_iload_n 4 31 32 1 1 rfl (by decide +kernel) rfl
def u_4_32 := zu_icmp_ne 4 32 37 35 (5) (by decide +kernel) rfl rfl
def u_4_35 := zu_iconst 4 35 36 1 1 (by decide) (by decide +kernel) rfl
def u_4_36 := zu_zret 4 36 (by decide +kernel) (by decide +kernel)
def u_4_37 := zu_iinc 4 37 40 2 1 1 (by decide) (by decide +kernel) rfl
def u_4_40 := zu_goto 4 40 2 (-38) (by decide +kernel) rfl
def u_4_43 := zu_iconst 4 43 44 0 0 (by decide) (by decide +kernel) rfl
def u_4_44 := zu_zret 4 44 (by decide +kernel) (by decide +kernel)
def u_42_0 := zu_aload_n 42 0 1 0 0 rfl (by decide +kernel) rfl
def u_42_1 := zu_obj 42 1 4 3 (by decide +kernel) (by decide +kernel) (by decide +kernel) (by decide +kernel) rfl
def u_42_4 := zu_aload_n 42 4 5 0 0 rfl (by decide +kernel) rfl
def u_42_5 := zu_new 42 5 8 9 4 3 [.int 0, .null, .int 0] (by decide +kernel) (by decide +kernel) (by decide +kernel) (by decide +kernel) rfl
def u_42_8i := zu_dup_i 42 8 9 (by decide +kernel) rfl
def u_42_8r := zu_dup_r 42 8 9 (by decide +kernel) rfl
def u_42_8n := zu_dup_n 42 8 9 (by decide +kernel) rfl
def u_42_9 := zu_bipush 42 9 11 11 11 (by decide) (by decide +kernel) rfl
theorem u_42_11 (G : zk_G) (L : zk_L) (st : List Value) (h : zk_H) (Q : Option Value → zk_H → Prop) (b : Nat) (x1 : Int32) : zk_wp G 42 11 L (.int x1 :: .ref b :: st) h Q ↔ (zk_sum st ≤ 8 ∧ zk_wp G 17 0 [some (.ref b), some (.int x1)] [] h (fun r h' => zk_wp G 42 14 L (r.toList ++ st) h' Q)) := zu_spec (i := 11) (k := 2) (As := [.int x1]) (by decide +kernel) (by decide +kernel) (by decide +kernel) (by decide +kernel) (show zk_na 17 = 1 from by decide +kernel) (by decide +kernel) (Nat.le_of_ble_eq_true rfl) rfl rfl rfl
def u_42_14 := zu_put 42 14 17 14 false 7 0 (.object "TickKeeper$Row") (by decide +kernel) (by decide +kernel) (by decide +kernel) (by decide +kernel) rfl
def u_42_17 := zu_aload_n 42 17 18 0 0 rfl (by decide +kernel) rfl
def u_42_18 := zu_new 42 18 21 9 4 3 [.int 0, .null, .int 0] (by decide +kernel) (by decide +kernel) (by decide +kernel) (by decide +kernel) rfl
def u_42_21i := zu_dup_i 42 21 22 (by decide +kernel) rfl
def u_42_21r := zu_dup_r 42 21 22 (by decide +kernel) rfl
def u_42_21n := zu_dup_n 42 21 22 (by decide +kernel) rfl
def u_42_22 := zu_bipush 42 22 24 11 11 (by decide) (by decide +kernel) rfl
theorem u_42_24 (G : zk_G) (L : zk_L) (st : List Value) (h : zk_H) (Q : Option Value → zk_H → Prop) (b : Nat) (x1 : Int32) : zk_wp G 42 24 L (.int x1 :: .ref b :: st) h Q ↔ (zk_sum st ≤ 8 ∧ zk_wp G 17 0 [some (.ref b), some (.int x1)] [] h (fun r h' => zk_wp G 42 27 L (r.toList ++ st) h' Q)) := zu_spec (i := 11) (k := 2) (As := [.int x1]) (by decide +kernel) (by decide +kernel) (by decide +kernel) (by decide +kernel) (show zk_na 17 = 1 from by decide +kernel) (by decide +kernel) (Nat.le_of_ble_eq_true rfl) rfl rfl rfl
def u_42_27 := zu_put 42 27 30 20 false 7 1 (.object "TickKeeper$Row") (by decide +kernel) (by decide +kernel) (by decide +kernel) (by decide +kernel) rfl
def u_42_30 := zu_aload_n 42 30 31 0 0 rfl (by decide +kernel) rfl
def u_42_31 := zu_new 42 31 34 9 4 3 [.int 0, .null, .int 0] (by decide +kernel) (by decide +kernel) (by decide +kernel) (by decide +kernel) rfl
def u_42_34i := zu_dup_i 42 34 35 (by decide +kernel) rfl
def u_42_34r := zu_dup_r 42 34 35 (by decide +kernel) rfl
def u_42_34n := zu_dup_n 42 34 35 (by decide +kernel) rfl
def u_42_35 := zu_bipush 42 35 37 20 20 (by decide) (by decide +kernel) rfl
theorem u_42_37 (G : zk_G) (L : zk_L) (st : List Value) (h : zk_H) (Q : Option Value → zk_H → Prop) (b : Nat) (x1 : Int32) : zk_wp G 42 37 L (.int x1 :: .ref b :: st) h Q ↔ (zk_sum st ≤ 8 ∧ zk_wp G 17 0 [some (.ref b), some (.int x1)] [] h (fun r h' => zk_wp G 42 40 L (r.toList ++ st) h' Q)) := zu_spec (i := 11) (k := 2) (As := [.int x1]) (by decide +kernel) (by decide +kernel) (by decide +kernel) (by decide +kernel) (show zk_na 17 = 1 from by decide +kernel) (by decide +kernel) (Nat.le_of_ble_eq_true rfl) rfl rfl rfl
def u_42_40 := zu_put 42 40 43 23 false 7 2 (.object "TickKeeper$Row") (by decide +kernel) (by decide +kernel) (by decide +kernel) (by decide +kernel) rfl
def u_42_43 := zu_aload_n 42 43 44 0 0 rfl (by decide +kernel) rfl
def u_42_44 := zu_bipush 42 44 46 20 20 (by decide) (by decide +kernel) rfl
def u_42_46 := zu_newi 42 46 48 (by decide +kernel) rfl
def u_42_48 := zu_put 42 48 51 26 false 7 3 (.array .int) (by decide +kernel) (by decide +kernel) (by decide +kernel) (by decide +kernel) rfl
def u_42_51 := zu_aload_n 42 51 52 0 0 rfl (by decide +kernel) rfl
def u_42_52 := zu_get 42 52 55 14 false 7 0 (by decide +kernel) (by decide +kernel) rfl
def u_42_55 := zu_iconst 42 55 56 0 0 (by decide) (by decide +kernel) rfl
theorem u_42_56 (G : zk_G) (L : zk_L) (st : List Value) (h : zk_H) (Q : Option Value → zk_H → Prop) (b : Nat) (x1 : Int32) : zk_wp G 42 56 L (.int x1 :: .ref b :: st) h Q ↔ (zk_ic G h b 4 ∧ zk_sum st ≤ 8 ∧ zk_wp G 18 0 [some (.ref b), some (.int x1)] [] h (fun r h' => zk_wp G 42 59 L (r.toList ++ st) h' Q)) := zu_virt (i := 30) (As := [.int x1]) (by decide +kernel) (by decide +kernel) (show zk_na 18 = 1 from by decide +kernel) (by decide +kernel) (Nat.le_of_ble_eq_true rfl) (by decide +kernel) rfl rfl rfl
def u_42_59i := zu_pop_i 42 59 60 (by decide +kernel) rfl
def u_42_59r := zu_pop_r 42 59 60 (by decide +kernel) rfl
def u_42_59n := zu_pop_n 42 59 60 (by decide +kernel) rfl
def u_42_60 := zu_aload_n 42 60 61 0 0 rfl (by decide +kernel) rfl
def u_42_61 := zu_get 42 61 64 20 false 7 1 (by decide +kernel) (by decide +kernel) rfl
def u_42_64 := zu_iconst 42 64 65 0 0 (by decide) (by decide +kernel) rfl
theorem u_42_65 (G : zk_G) (L : zk_L) (st : List Value) (h : zk_H) (Q : Option Value → zk_H → Prop) (b : Nat) (x1 : Int32) : zk_wp G 42 65 L (.int x1 :: .ref b :: st) h Q ↔ (zk_ic G h b 4 ∧ zk_sum st ≤ 8 ∧ zk_wp G 18 0 [some (.ref b), some (.int x1)] [] h (fun r h' => zk_wp G 42 68 L (r.toList ++ st) h' Q)) := zu_virt (i := 30) (As := [.int x1]) (by decide +kernel) (by decide +kernel) (show zk_na 18 = 1 from by decide +kernel) (by decide +kernel) (Nat.le_of_ble_eq_true rfl) (by decide +kernel) rfl rfl rfl
def u_42_68i := zu_pop_i 42 68 69 (by decide +kernel) rfl
def u_42_68r := zu_pop_r 42 68 69 (by decide +kernel) rfl
def u_42_68n := zu_pop_n 42 68 69 (by decide +kernel) rfl
def u_42_69 := zu_vret 42 69 (by decide +kernel) (by decide +kernel)
def u_43_0 := zu_aload_n 43 0 1 0 0 rfl (by decide +kernel) rfl
theorem u_43_1 (G : zk_G) (L : zk_L) (st : List Value) (h : zk_H) (Q : Option Value → zk_H → Prop) (b : Nat)  : zk_wp G 43 1 L (.ref b :: st) h Q ↔ (zk_ic G h b 7 ∧ zk_sum st ≤ 8 ∧ zk_wp G 44 0 [some (.ref b)] [] h (fun r h' => zk_wp G 43 4 L (r.toList ++ st) h' Q)) := zu_virt (i := 38) (As := []) (by decide +kernel) (by decide +kernel) (show zk_na 44 = 0 from by decide +kernel) (by decide +kernel) (Nat.le_of_ble_eq_true rfl) (by decide +kernel) rfl rfl rfl
def u_43_4 := zu_if_ne 43 4 11 7 (7) (by decide +kernel) rfl rfl
def u_43_7 := zu_iconst 43 7 8 (-1) (-1) (by decide) (by decide +kernel) rfl
def u_43_8 := zu_goto 43 8 27 (19) (by decide +kernel) rfl
def u_43_11 := zu_aload_n 43 11 12 0 0 rfl (by decide +kernel) rfl
def u_43_12 := zu_get 43 12 15 14 false 7 0 (by decide +kernel) (by decide +kernel) rfl
def u_43_15 := zu_aload_n 43 15 16 0 0 rfl (by decide +kernel) rfl
def u_43_16 := zu_get 43 16 19 14 false 7 0 (by decide +kernel) (by decide +kernel) rfl
def u_43_19 := zu_get 43 19 22 34 true 4 2 (by decide +kernel) (by decide +kernel) rfl
def u_43_22 := zu_iconst 43 22 23 1 1 (by decide) (by decide +kernel) rfl
def u_43_23 := zu_isub 43 23 24 (by decide +kernel) rfl
theorem u_43_24 (G : zk_G) (L : zk_L) (st : List Value) (h : zk_H) (Q : Option Value → zk_H → Prop) (b : Nat) (x1 : Int32) : zk_wp G 43 24 L (.int x1 :: .ref b :: st) h Q ↔ (zk_ic G h b 4 ∧ zk_sum st ≤ 8 ∧ zk_wp G 19 0 [some (.ref b), some (.int x1)] [] h (fun r h' => zk_wp G 43 27 L (r.toList ++ st) h' Q)) := zu_virt (i := 42) (As := [.int x1]) (by decide +kernel) (by decide +kernel) (show zk_na 19 = 1 from by decide +kernel) (by decide +kernel) (Nat.le_of_ble_eq_true rfl) (by decide +kernel) rfl rfl rfl
def u_43_27 := zu_iret 43 27 (by decide +kernel) (by decide +kernel)
def u_44_0 := zu_aload_n 44 0 1 0 0 rfl (by decide +kernel) rfl
def u_44_1 := zu_get 44 1 4 14 false 7 0 (by decide +kernel) (by decide +kernel) rfl
def u_44_4 := zu_get 44 4 7 34 true 4 2 (by decide +kernel) (by decide +kernel) rfl
def u_44_7 := zu_iconst 44 7 8 1 1 (by decide) (by decide +kernel) rfl
def u_44_8 := zu_isub 44 8 9 (by decide +kernel) rfl
def u_44_9 := zu_iret 44 9 (by decide +kernel) (by decide +kernel)
def u_45_0 := zu_aload_n 45 0 1 0 0 rfl (by decide +kernel) rfl
def u_45_1 := zu_get 45 1 4 14 false 7 0 (by decide +kernel) (by decide +kernel) rfl
def u_45_4 := zu_iload_n 45 4 5 1 1 rfl (by decide +kernel) rfl
theorem u_45_5 (G : zk_G) (L : zk_L) (st : List Value) (h : zk_H) (Q : Option Value → zk_H → Prop) (b : Nat) (x1 : Int32) : zk_wp G 45 5 L (.int x1 :: .ref b :: st) h Q ↔ (zk_ic G h b 4 ∧ zk_sum st ≤ 8 ∧ zk_wp G 18 0 [some (.ref b), some (.int x1)] [] h (fun r h' => zk_wp G 45 8 L (r.toList ++ st) h' Q)) := zu_virt (i := 30) (As := [.int x1]) (by decide +kernel) (by decide +kernel) (show zk_na 18 = 1 from by decide +kernel) (by decide +kernel) (Nat.le_of_ble_eq_true rfl) (by decide +kernel) rfl rfl rfl
def u_45_8 := zu_if_eq 45 8 26 11 (18) (by decide +kernel) rfl rfl
def u_45_11 := zu_aload_n 45 11 12 0 0 rfl (by decide +kernel) rfl
def u_45_12 := zu_get 45 12 15 20 false 7 1 (by decide +kernel) (by decide +kernel) rfl
def u_45_15 := zu_iload_n 45 15 16 2 2 rfl (by decide +kernel) rfl
theorem u_45_16 (G : zk_G) (L : zk_L) (st : List Value) (h : zk_H) (Q : Option Value → zk_H → Prop) (b : Nat) (x1 : Int32) : zk_wp G 45 16 L (.int x1 :: .ref b :: st) h Q ↔ (zk_ic G h b 4 ∧ zk_sum st ≤ 8 ∧ zk_wp G 18 0 [some (.ref b), some (.int x1)] [] h (fun r h' => zk_wp G 45 19 L (r.toList ++ st) h' Q)) := zu_virt (i := 30) (As := [.int x1]) (by decide +kernel) (by decide +kernel) (show zk_na 18 = 1 from by decide +kernel) (by decide +kernel) (Nat.le_of_ble_eq_true rfl) (by decide +kernel) rfl rfl rfl
def u_45_19 := zu_if_eq 45 19 26 22 (7) (by decide +kernel) rfl rfl
def u_45_22 := zu_iconst 45 22 23 1 1 (by decide) (by decide +kernel) rfl
def u_45_23 := zu_goto 45 23 27 (4) (by decide +kernel) rfl
def u_45_26 := zu_iconst 45 26 27 0 0 (by decide) (by decide +kernel) rfl
def u_45_27 := zu_zret 45 27 (by decide +kernel) (by decide +kernel)
def u_46_0 := zu_aload_n 46 0 1 0 0 rfl (by decide +kernel) rfl
def u_46_1 := zu_get 46 1 4 23 false 7 2 (by decide +kernel) (by decide +kernel) rfl
def u_46_4 := zu_iload_n 46 4 5 1 1 rfl (by decide +kernel) rfl
theorem u_46_5 (G : zk_G) (L : zk_L) (st : List Value) (h : zk_H) (Q : Option Value → zk_H → Prop) (b : Nat) (x1 : Int32) : zk_wp G 46 5 L (.int x1 :: .ref b :: st) h Q ↔ (zk_ic G h b 4 ∧ zk_sum st ≤ 8 ∧ zk_wp G 20 0 [some (.ref b), some (.int x1), none] [] h (fun r h' => zk_wp G 46 8 L (r.toList ++ st) h' Q)) := zu_virt (i := 69) (As := [.int x1]) (by decide +kernel) (by decide +kernel) (show zk_na 20 = 1 from by decide +kernel) (by decide +kernel) (Nat.le_of_ble_eq_true rfl) (by decide +kernel) rfl rfl rfl
def u_46_8 := zu_zret 46 8 (by decide +kernel) (by decide +kernel)
def u_47_0 := zu_aload_n 47 0 1 0 0 rfl (by decide +kernel) rfl
def u_47_1 := zu_get 47 1 4 23 false 7 2 (by decide +kernel) (by decide +kernel) rfl
def u_47_4 := zu_iload_n 47 4 5 1 1 rfl (by decide +kernel) rfl
theorem u_47_5 (G : zk_G) (L : zk_L) (st : List Value) (h : zk_H) (Q : Option Value → zk_H → Prop) (b : Nat) (x1 : Int32) : zk_wp G 47 5 L (.int x1 :: .ref b :: st) h Q ↔ (zk_ic G h b 4 ∧ zk_sum st ≤ 8 ∧ zk_wp G 18 0 [some (.ref b), some (.int x1)] [] h (fun r h' => zk_wp G 47 8 L (r.toList ++ st) h' Q)) := zu_virt (i := 30) (As := [.int x1]) (by decide +kernel) (by decide +kernel) (show zk_na 18 = 1 from by decide +kernel) (by decide +kernel) (Nat.le_of_ble_eq_true rfl) (by decide +kernel) rfl rfl rfl
def u_47_8 := zu_if_ne 47 8 13 11 (5) (by decide +kernel) rfl rfl
def u_47_11 := zu_iconst 47 11 12 0 0 (by decide) (by decide +kernel) rfl
def u_47_12 := zu_zret 47 12 (by decide +kernel) (by decide +kernel)
def u_47_13 := zu_iconst 47 13 14 0 0 (by decide) (by decide +kernel) rfl
def u_47_14 := zu_istore_n 47 14 15 2 2 rfl (by decide +kernel) rfl
def u_47_15 := zu_iload_n 47 15 16 2 2 rfl (by decide +kernel) rfl
def u_47_16 := zu_aload_n 47 16 17 0 0 rfl (by decide +kernel) rfl
def u_47_17 := zu_get 47 17 20 23 false 7 2 (by decide +kernel) (by decide +kernel) rfl
def u_47_20 := zu_get 47 20 23 34 true 4 2 (by decide +kernel) (by decide +kernel) rfl
def u_47_23 := zu_icmp_ge 47 23 56 26 (33) (by decide +kernel) rfl rfl
def u_47_26 := zu_iload_n 47 26 27 2 2 rfl (by decide +kernel) rfl
def u_47_27 := zu_bipush 47 27 29 20 20 (by decide) (by decide +kernel) rfl
def u_47_29 := zu_icmp_ge 47 29 56 32 (27) (by decide +kernel) rfl rfl
def u_47_32 := zu_aload_n 47 32 33 0 0 rfl (by decide +kernel) rfl
def u_47_33 := zu_get 47 33 36 26 false 7 3 (by decide +kernel) (by decide +kernel) rfl
def u_47_36 := zu_iload_n 47 36 37 2 2 rfl (by decide +kernel) rfl
def u_47_37 := zu_aload_n 47 37 38 0 0 rfl (by decide +kernel) rfl
def u_47_38 := zu_aload_n 47 38 39 0 0 rfl (by decide +kernel) rfl
def u_47_39 := zu_get 47 39 42 23 false 7 2 (by decide +kernel) (by decide +kernel) rfl
def u_47_42 := zu_iload_n 47 42 43 2 2 rfl (by decide +kernel) rfl
theorem u_47_43 (G : zk_G) (L : zk_L) (st : List Value) (h : zk_H) (Q : Option Value → zk_H → Prop) (b : Nat) (x1 : Int32) : zk_wp G 47 43 L (.int x1 :: .ref b :: st) h Q ↔ (zk_ic G h b 4 ∧ zk_sum st ≤ 8 ∧ zk_wp G 19 0 [some (.ref b), some (.int x1)] [] h (fun r h' => zk_wp G 47 46 L (r.toList ++ st) h' Q)) := zu_virt (i := 42) (As := [.int x1]) (by decide +kernel) (by decide +kernel) (show zk_na 19 = 1 from by decide +kernel) (by decide +kernel) (Nat.le_of_ble_eq_true rfl) (by decide +kernel) rfl rfl rfl
theorem u_47_46 (G : zk_G) (L : zk_L) (st : List Value) (h : zk_H) (Q : Option Value → zk_H → Prop) (b : Nat) (x1 : Int32) : zk_wp G 47 46 L (.int x1 :: .ref b :: st) h Q ↔ (zk_ic G h b 7 ∧ zk_sum st ≤ 8 ∧ zk_wp G 48 0 [some (.ref b), some (.int x1), none] [] h (fun r h' => zk_wp G 47 49 L (r.toList ++ st) h' Q)) := zu_virt (i := 80) (As := [.int x1]) (by decide +kernel) (by decide +kernel) (show zk_na 48 = 1 from by decide +kernel) (by decide +kernel) (Nat.le_of_ble_eq_true rfl) (by decide +kernel) rfl rfl rfl
def u_47_49 := zu_iastore 47 49 50 (by decide +kernel) rfl
def u_47_50 := zu_iinc 47 50 53 2 1 1 (by decide) (by decide +kernel) rfl
def u_47_53 := zu_goto 47 53 15 (-38) (by decide +kernel) rfl
def u_47_56 := zu_iconst 47 56 57 1 1 (by decide) (by decide +kernel) rfl
def u_47_57 := zu_zret 47 57 (by decide +kernel) (by decide +kernel)
def u_48_0 := zu_iload_n 48 0 1 1 1 rfl (by decide +kernel) rfl
def u_48_1 := zu_iconst 48 1 2 1 1 (by decide) (by decide +kernel) rfl
def u_48_2 := zu_iadd 48 2 3 (by decide +kernel) rfl
def u_48_3 := zu_istore_n 48 3 4 2 2 rfl (by decide +kernel) rfl
def u_48_4 := zu_iload_n 48 4 5 2 2 rfl (by decide +kernel) rfl
def u_48_5 := zu_iload_n 48 5 6 1 1 rfl (by decide +kernel) rfl
def u_48_6 := zu_bipush 48 6 8 60 60 (by decide) (by decide +kernel) rfl
def u_48_8 := zu_iadd 48 8 9 (by decide +kernel) rfl
def u_48_9 := zu_icmp_gt 48 9 28 12 (19) (by decide +kernel) rfl rfl
def u_48_12 := zu_aload_n 48 12 13 0 0 rfl (by decide +kernel) rfl
def u_48_13 := zu_iload_n 48 13 14 2 2 rfl (by decide +kernel) rfl
theorem u_48_14 (G : zk_G) (L : zk_L) (st : List Value) (h : zk_H) (Q : Option Value → zk_H → Prop) (b : Nat) (x1 : Int32) : zk_wp G 48 14 L (.int x1 :: .ref b :: st) h Q ↔ (zk_ic G h b 7 ∧ zk_sum st ≤ 8 ∧ zk_wp G 49 0 [some (.ref b), some (.int x1)] [] h (fun r h' => zk_wp G 48 17 L (r.toList ++ st) h' Q)) := zu_virt (i := 83) (As := [.int x1]) (by decide +kernel) (by decide +kernel) (show zk_na 49 = 1 from by decide +kernel) (by decide +kernel) (Nat.le_of_ble_eq_true rfl) (by decide +kernel) rfl rfl rfl
def u_48_17 := zu_if_eq 48 17 22 20 (5) (by decide +kernel) rfl rfl
def u_48_20 := zu_iload_n 48 20 21 2 2 rfl (by decide +kernel) rfl
def u_48_21 := zu_iret 48 21 (by decide +kernel) (by decide +kernel)
def u_48_22 := zu_iinc 48 22 25 2 1 1 (by decide) (by decide +kernel) rfl
def u_48_25 := zu_goto 48 25 4 (-21) (by decide +kernel) rfl
def u_48_28 := zu_ldc 48 28 30 56 2147483647 (by decide +kernel) (by decide +kernel) rfl
def u_48_30 := zu_iret 48 30 (by decide +kernel) (by decide +kernel)
def u_49_0 := zu_iload_n 49 0 1 1 1 rfl (by decide +kernel) rfl
theorem u_49_1 (G : zk_G) (L : zk_L) (st : List Value) (h : zk_H) (Q : Option Value → zk_H → Prop) (x1 : Int32) : zk_wp G 49 1 L (.int x1 :: st) h Q ↔ (zk_sum st ≤ 8 ∧ zk_wp G 192 0 [some (.int x1)] [] h (fun r h' => zk_wp G 49 4 L (r.toList ++ st) h' Q)) := zu_stat (i := 72) (As := [.int x1]) (by decide +kernel) (by decide +kernel) (by decide +kernel) (show zk_na 192 = 1 from by decide +kernel) (by decide +kernel) (Nat.le_of_ble_eq_true rfl) rfl rfl rfl
def u_49_4 := zu_iconst 49 4 5 5 5 (by decide) (by decide +kernel) rfl
def u_49_5 := zu_icmp_ge 49 5 20 8 (15) (by decide +kernel) rfl rfl
def u_49_8 := zu_aload_n 49 8 9 0 0 rfl (by decide +kernel) rfl
def u_49_9 := zu_iload_n 49 9 10 1 1 rfl (by decide +kernel) rfl
theorem u_49_10 (G : zk_G) (L : zk_L) (st : List Value) (h : zk_H) (Q : Option Value → zk_H → Prop) (b : Nat) (x1 : Int32) : zk_wp G 49 10 L (.int x1 :: .ref b :: st) h Q ↔ (zk_ic G h b 7 ∧ zk_sum st ≤ 8 ∧ zk_wp G 46 0 [some (.ref b), some (.int x1)] [] h (fun r h' => zk_wp G 49 13 L (r.toList ++ st) h' Q)) := zu_virt (i := 77) (As := [.int x1]) (by decide +kernel) (by decide +kernel) (show zk_na 46 = 1 from by decide +kernel) (by decide +kernel) (Nat.le_of_ble_eq_true rfl) (by decide +kernel) rfl rfl rfl
def u_49_13 := zu_if_ne 49 13 20 16 (7) (by decide +kernel) rfl rfl
def u_49_16 := zu_iconst 49 16 17 1 1 (by decide) (by decide +kernel) rfl
def u_49_17 := zu_goto 49 17 21 (4) (by decide +kernel) rfl
def u_49_20 := zu_iconst 49 20 21 0 0 (by decide) (by decide +kernel) rfl
def u_49_21 := zu_zret 49 21 (by decide +kernel) (by decide +kernel)
def u_50_0 := zu_iconst 50 0 1 0 0 (by decide) (by decide +kernel) rfl
def u_50_1 := zu_istore_n 50 1 2 2 2 rfl (by decide +kernel) rfl
def u_50_2 := zu_iconst 50 2 3 0 0 (by decide) (by decide +kernel) rfl
def u_50_3 := zu_istore_n 50 3 4 3 3 rfl (by decide +kernel) rfl
def u_50_4 := zu_iload_n 50 4 5 3 3 rfl (by decide +kernel) rfl
def u_50_5 := zu_aload_n 50 5 6 0 0 rfl (by decide +kernel) rfl
def u_50_6 := zu_get 50 6 9 14 false 7 0 (by decide +kernel) (by decide +kernel) rfl
def u_50_9 := zu_get 50 9 12 34 true 4 2 (by decide +kernel) (by decide +kernel) rfl
def u_50_12 := zu_icmp_ge 50 12 42 15 (30) (by decide +kernel) rfl rfl
def u_50_15 := zu_aload_n 50 15 16 0 0 rfl (by decide +kernel) rfl
def u_50_16 := zu_get 50 16 19 14 false 7 0 (by decide +kernel) (by decide +kernel) rfl
def u_50_19 := zu_iload_n 50 19 20 3 3 rfl (by decide +kernel) rfl
theorem u_50_20 (G : zk_G) (L : zk_L) (st : List Value) (h : zk_H) (Q : Option Value → zk_H → Prop) (b : Nat) (x1 : Int32) : zk_wp G 50 20 L (.int x1 :: .ref b :: st) h Q ↔ (zk_ic G h b 4 ∧ zk_sum st ≤ 8 ∧ zk_wp G 19 0 [some (.ref b), some (.int x1)] [] h (fun r h' => zk_wp G 50 23 L (r.toList ++ st) h' Q)) := zu_virt (i := 42) (As := [.int x1]) (by decide +kernel) (by decide +kernel) (show zk_na 19 = 1 from by decide +kernel) (by decide +kernel) (Nat.le_of_ble_eq_true rfl) (by decide +kernel) rfl rfl rfl
def u_50_23 := zu_iload_n 50 23 24 1 1 rfl (by decide +kernel) rfl
def u_50_24 := zu_icmp_gt 50 24 42 27 (18) (by decide +kernel) rfl rfl
def u_50_27 := zu_aload_n 50 27 28 0 0 rfl (by decide +kernel) rfl
def u_50_28 := zu_get 50 28 31 20 false 7 1 (by decide +kernel) (by decide +kernel) rfl
def u_50_31 := zu_iload_n 50 31 32 3 3 rfl (by decide +kernel) rfl
theorem u_50_32 (G : zk_G) (L : zk_L) (st : List Value) (h : zk_H) (Q : Option Value → zk_H → Prop) (b : Nat) (x1 : Int32) : zk_wp G 50 32 L (.int x1 :: .ref b :: st) h Q ↔ (zk_ic G h b 4 ∧ zk_sum st ≤ 8 ∧ zk_wp G 19 0 [some (.ref b), some (.int x1)] [] h (fun r h' => zk_wp G 50 35 L (r.toList ++ st) h' Q)) := zu_virt (i := 42) (As := [.int x1]) (by decide +kernel) (by decide +kernel) (show zk_na 19 = 1 from by decide +kernel) (by decide +kernel) (Nat.le_of_ble_eq_true rfl) (by decide +kernel) rfl rfl rfl
def u_50_35 := zu_istore_n 50 35 36 2 2 rfl (by decide +kernel) rfl
def u_50_36 := zu_iinc 50 36 39 3 1 1 (by decide) (by decide +kernel) rfl
def u_50_39 := zu_goto 50 39 4 (-35) (by decide +kernel) rfl
def u_50_42 := zu_iload_n 50 42 43 1 1 rfl (by decide +kernel) rfl
def u_50_43 := zu_iload_n 50 43 44 2 2 rfl (by decide +kernel) rfl
def u_50_44 := zu_iadd 50 44 45 (by decide +kernel) rfl
def u_50_45 := zu_iret 50 45 (by decide +kernel) (by decide +kernel)
def u_51_0 := zu_iload_n 51 0 1 1 1 rfl (by decide +kernel) rfl
def u_51_1 := zu_aload_n 51 1 2 0 0 rfl (by decide +kernel) rfl
def u_51_2 := zu_iconst 51 2 3 0 0 (by decide) (by decide +kernel) rfl
theorem u_51_3 (G : zk_G) (L : zk_L) (st : List Value) (h : zk_H) (Q : Option Value → zk_H → Prop) (b : Nat) (x1 : Int32) : zk_wp G 51 3 L (.int x1 :: .ref b :: st) h Q ↔ (zk_ic G h b 7 ∧ zk_sum st ≤ 8 ∧ zk_wp G 50 0 [some (.ref b), some (.int x1), none, none] [] h (fun r h' => zk_wp G 51 6 L (r.toList ++ st) h' Q)) := zu_virt (i := 47) (As := [.int x1]) (by decide +kernel) (by decide +kernel) (show zk_na 50 = 1 from by decide +kernel) (by decide +kernel) (Nat.le_of_ble_eq_true rfl) (by decide +kernel) rfl rfl rfl
def u_51_6 := zu_icmp_ge 51 6 12 9 (6) (by decide +kernel) rfl rfl
def u_51_9 := zu_ldc 51 9 11 56 2147483647 (by decide +kernel) (by decide +kernel) rfl
def u_51_11 := zu_iret 51 11 (by decide +kernel) (by decide +kernel)
def u_51_12 := zu_iconst 51 12 13 0 0 (by decide) (by decide +kernel) rfl
def u_51_13 := zu_istore_n 51 13 14 2 2 rfl (by decide +kernel) rfl
def u_51_14 := zu_iload_n 51 14 15 2 2 rfl (by decide +kernel) rfl
def u_51_15 := zu_aload_n 51 15 16 0 0 rfl (by decide +kernel) rfl
def u_51_16 := zu_get 51 16 19 14 false 7 0 (by decide +kernel) (by decide +kernel) rfl
def u_51_19 := zu_get 51 19 22 34 true 4 2 (by decide +kernel) (by decide +kernel) rfl
def u_51_22 := zu_icmp_ge 51 22 70 25 (48) (by decide +kernel) rfl rfl
def u_51_25 := zu_aload_n 51 25 26 0 0 rfl (by decide +kernel) rfl
def u_51_26 := zu_get 51 26 29 14 false 7 0 (by decide +kernel) (by decide +kernel) rfl
def u_51_29 := zu_iload_n 51 29 30 2 2 rfl (by decide +kernel) rfl
theorem u_51_30 (G : zk_G) (L : zk_L) (st : List Value) (h : zk_H) (Q : Option Value → zk_H → Prop) (b : Nat) (x1 : Int32) : zk_wp G 51 30 L (.int x1 :: .ref b :: st) h Q ↔ (zk_ic G h b 4 ∧ zk_sum st ≤ 8 ∧ zk_wp G 19 0 [some (.ref b), some (.int x1)] [] h (fun r h' => zk_wp G 51 33 L (r.toList ++ st) h' Q)) := zu_virt (i := 42) (As := [.int x1]) (by decide +kernel) (by decide +kernel) (show zk_na 19 = 1 from by decide +kernel) (by decide +kernel) (Nat.le_of_ble_eq_true rfl) (by decide +kernel) rfl rfl rfl
def u_51_33 := zu_i2l 51 33 34 (by decide +kernel) rfl
def u_51_34 := zu_iload_n 51 34 35 1 1 rfl (by decide +kernel) rfl
def u_51_35 := zu_i2l 51 35 36 (by decide +kernel) rfl
def u_51_36 := zu_aload_n 51 36 37 0 0 rfl (by decide +kernel) rfl
def u_51_37 := zu_get 51 37 40 20 false 7 1 (by decide +kernel) (by decide +kernel) rfl
def u_51_40 := zu_iload_n 51 40 41 2 2 rfl (by decide +kernel) rfl
theorem u_51_41 (G : zk_G) (L : zk_L) (st : List Value) (h : zk_H) (Q : Option Value → zk_H → Prop) (b : Nat) (x1 : Int32) : zk_wp G 51 41 L (.int x1 :: .ref b :: st) h Q ↔ (zk_ic G h b 4 ∧ zk_sum st ≤ 8 ∧ zk_wp G 19 0 [some (.ref b), some (.int x1)] [] h (fun r h' => zk_wp G 51 44 L (r.toList ++ st) h' Q)) := zu_virt (i := 42) (As := [.int x1]) (by decide +kernel) (by decide +kernel) (show zk_na 19 = 1 from by decide +kernel) (by decide +kernel) (Nat.le_of_ble_eq_true rfl) (by decide +kernel) rfl rfl rfl
def u_51_44 := zu_i2l 51 44 45 (by decide +kernel) rfl
def u_51_45 := zu_lsub 51 45 46 (by decide +kernel) rfl
theorem u_51_46 (G : zk_G) (L : zk_L) (st : List Value) (h : zk_H) (Q : Option Value → zk_H → Prop) (x1 : Int64) (x2 : Int64) : zk_wp G 51 46 L (.long x2 :: .long x1 :: st) h Q ↔ (zk_sum st ≤ 8 ∧ zk_wp G 200 0 [some (.long x1), none, some (.long x2), none] [] h (fun r h' => zk_wp G 51 49 L (r.toList ++ st) h' Q)) := zu_stat (i := 57) (As := [.long x1, .long x2]) (by decide +kernel) (by decide +kernel) (by decide +kernel) (show zk_na 200 = 2 from by decide +kernel) (by decide +kernel) (Nat.le_of_ble_eq_true rfl) rfl rfl rfl
def u_51_49 := zu_lstore_n 51 49 50 3 3 rfl (by decide +kernel) rfl
def u_51_50 := zu_lload_n 51 50 51 3 3 rfl (by decide +kernel) rfl
def u_51_51 := zu_aload_n 51 51 52 0 0 rfl (by decide +kernel) rfl
def u_51_52 := zu_iload_n 51 52 53 2 2 rfl (by decide +kernel) rfl
theorem u_51_53 (G : zk_G) (L : zk_L) (st : List Value) (h : zk_H) (Q : Option Value → zk_H → Prop) (b : Nat) (x1 : Int32) : zk_wp G 51 53 L (.int x1 :: .ref b :: st) h Q ↔ (zk_ic G h b 7 ∧ zk_sum st ≤ 8 ∧ zk_wp G 52 0 [some (.ref b), some (.int x1)] [] h (fun r h' => zk_wp G 51 56 L (r.toList ++ st) h' Q)) := zu_virt (i := 61) (As := [.int x1]) (by decide +kernel) (by decide +kernel) (show zk_na 52 = 1 from by decide +kernel) (by decide +kernel) (Nat.le_of_ble_eq_true rfl) (by decide +kernel) rfl rfl rfl
def u_51_56 := zu_i2l 51 56 57 (by decide +kernel) rfl
def u_51_57 := zu_lcmp 51 57 58 (by decide +kernel) rfl
def u_51_58 := zu_if_gt 51 58 64 61 (6) (by decide +kernel) rfl rfl
def u_51_61 := zu_lload_n 51 61 62 3 3 rfl (by decide +kernel) rfl
def u_51_62 := zu_l2i 51 62 63 (by decide +kernel) rfl
def u_51_63 := zu_iret 51 63 (by decide +kernel) (by decide +kernel)
def u_51_64 := zu_iinc 51 64 67 2 1 1 (by decide) (by decide +kernel) rfl
def u_51_67 := zu_goto 51 67 14 (-53) (by decide +kernel) rfl
def u_51_70 := zu_ldc 51 70 72 56 2147483647 (by decide +kernel) (by decide +kernel) rfl
def u_51_72 := zu_iret 51 72 (by decide +kernel) (by decide +kernel)
def u_52_0 := zu_iload_n 52 0 1 1 1 rfl (by decide +kernel) rfl
def u_52_1 := zu_iconst 52 1 2 1 1 (by decide) (by decide +kernel) rfl
def u_52_2 := zu_iadd 52 2 3 (by decide +kernel) rfl
def u_52_3 := zu_aload_n 52 3 4 0 0 rfl (by decide +kernel) rfl
def u_52_4 := zu_get 52 4 7 14 false 7 0 (by decide +kernel) (by decide +kernel) rfl
def u_52_7 := zu_get 52 7 10 34 true 4 2 (by decide +kernel) (by decide +kernel) rfl
def u_52_10 := zu_icmp_ge 52 10 28 13 (18) (by decide +kernel) rfl rfl
def u_52_13 := zu_aload_n 52 13 14 0 0 rfl (by decide +kernel) rfl
def u_52_14 := zu_get 52 14 17 14 false 7 0 (by decide +kernel) (by decide +kernel) rfl
def u_52_17 := zu_iload_n 52 17 18 1 1 rfl (by decide +kernel) rfl
def u_52_18 := zu_iconst 52 18 19 1 1 (by decide) (by decide +kernel) rfl
def u_52_19 := zu_iadd 52 19 20 (by decide +kernel) rfl
theorem u_52_20 (G : zk_G) (L : zk_L) (st : List Value) (h : zk_H) (Q : Option Value → zk_H → Prop) (b : Nat) (x1 : Int32) : zk_wp G 52 20 L (.int x1 :: .ref b :: st) h Q ↔ (zk_ic G h b 4 ∧ zk_sum st ≤ 8 ∧ zk_wp G 19 0 [some (.ref b), some (.int x1)] [] h (fun r h' => zk_wp G 52 23 L (r.toList ++ st) h' Q)) := zu_virt (i := 42) (As := [.int x1]) (by decide +kernel) (by decide +kernel) (show zk_na 19 = 1 from by decide +kernel) (by decide +kernel) (Nat.le_of_ble_eq_true rfl) (by decide +kernel) rfl rfl rfl
def u_52_23 := zu_iconst 52 23 24 1 1 (by decide) (by decide +kernel) rfl
def u_52_24 := zu_isub 52 24 25 (by decide +kernel) rfl
def u_52_25 := zu_goto 52 25 30 (5) (by decide +kernel) rfl
def u_52_28 := zu_ldc 52 28 30 46 21038399 (by decide +kernel) (by decide +kernel) rfl
def u_52_30 := zu_iret 52 30 (by decide +kernel) (by decide +kernel)
def u_53_0 := zu_aload_n 53 0 1 0 0 rfl (by decide +kernel) rfl
def u_53_1 := zu_iconst 53 1 2 0 0 (by decide) (by decide +kernel) rfl
theorem u_53_2 (G : zk_G) (L : zk_L) (st : List Value) (h : zk_H) (Q : Option Value → zk_H → Prop) (b : Nat) (x1 : Int32) : zk_wp G 53 2 L (.int x1 :: .ref b :: st) h Q ↔ (zk_ic G h b 7 ∧ zk_sum st ≤ 8 ∧ zk_wp G 50 0 [some (.ref b), some (.int x1), none, none] [] h (fun r h' => zk_wp G 53 5 L (r.toList ++ st) h' Q)) := zu_virt (i := 47) (As := [.int x1]) (by decide +kernel) (by decide +kernel) (show zk_na 50 = 1 from by decide +kernel) (by decide +kernel) (Nat.le_of_ble_eq_true rfl) (by decide +kernel) rfl rfl rfl
def u_53_5 := zu_iconst 53 5 6 1 1 (by decide) (by decide +kernel) rfl
def u_53_6 := zu_isub 53 6 7 (by decide +kernel) rfl
def u_53_7 := zu_istore_n 53 7 8 2 2 rfl (by decide +kernel) rfl
def u_53_8 := zu_iconst 53 8 9 0 0 (by decide) (by decide +kernel) rfl
def u_53_9 := zu_istore_n 53 9 10 3 3 rfl (by decide +kernel) rfl
def u_53_10 := zu_iload_n 53 10 11 3 3 rfl (by decide +kernel) rfl
def u_53_11 := zu_aload_n 53 11 12 0 0 rfl (by decide +kernel) rfl
def u_53_12 := zu_get 53 12 15 14 false 7 0 (by decide +kernel) (by decide +kernel) rfl
def u_53_15 := zu_get 53 15 18 34 true 4 2 (by decide +kernel) (by decide +kernel) rfl
def u_53_18 := zu_icmp_ge 53 18 69 21 (51) (by decide +kernel) rfl rfl
def u_53_21 := zu_aload_n 53 21 22 0 0 rfl (by decide +kernel) rfl
def u_53_22 := zu_iload_n 53 22 23 3 3 rfl (by decide +kernel) rfl
theorem u_53_23 (G : zk_G) (L : zk_L) (st : List Value) (h : zk_H) (Q : Option Value → zk_H → Prop) (b : Nat) (x1 : Int32) : zk_wp G 53 23 L (.int x1 :: .ref b :: st) h Q ↔ (zk_ic G h b 7 ∧ zk_sum st ≤ 8 ∧ zk_wp G 52 0 [some (.ref b), some (.int x1)] [] h (fun r h' => zk_wp G 53 26 L (r.toList ++ st) h' Q)) := zu_virt (i := 61) (As := [.int x1]) (by decide +kernel) (by decide +kernel) (show zk_na 52 = 1 from by decide +kernel) (by decide +kernel) (Nat.le_of_ble_eq_true rfl) (by decide +kernel) rfl rfl rfl
def u_53_26 := zu_iload_n 53 26 27 1 1 rfl (by decide +kernel) rfl
def u_53_27 := zu_iconst 53 27 28 1 1 (by decide) (by decide +kernel) rfl
def u_53_28 := zu_isub 53 28 29 (by decide +kernel) rfl
theorem u_53_29 (G : zk_G) (L : zk_L) (st : List Value) (h : zk_H) (Q : Option Value → zk_H → Prop) (x1 : Int32) (x2 : Int32) : zk_wp G 53 29 L (.int x2 :: .int x1 :: st) h Q ↔ (zk_sum st ≤ 8 ∧ zk_wp G 198 0 [some (.int x1), some (.int x2)] [] h (fun r h' => zk_wp G 53 32 L (r.toList ++ st) h' Q)) := zu_stat (i := 64) (As := [.int x1, .int x2]) (by decide +kernel) (by decide +kernel) (by decide +kernel) (show zk_na 198 = 2 from by decide +kernel) (by decide +kernel) (Nat.le_of_ble_eq_true rfl) rfl rfl rfl
def u_53_32 := zu_istore 53 32 34 4 (by decide +kernel) rfl
def u_53_34 := zu_iload 53 34 36 4 (by decide +kernel) rfl
def u_53_36 := zu_aload_n 53 36 37 0 0 rfl (by decide +kernel) rfl
def u_53_37 := zu_get 53 37 40 14 false 7 0 (by decide +kernel) (by decide +kernel) rfl
def u_53_40 := zu_iload_n 53 40 41 3 3 rfl (by decide +kernel) rfl
theorem u_53_41 (G : zk_G) (L : zk_L) (st : List Value) (h : zk_H) (Q : Option Value → zk_H → Prop) (b : Nat) (x1 : Int32) : zk_wp G 53 41 L (.int x1 :: .ref b :: st) h Q ↔ (zk_ic G h b 4 ∧ zk_sum st ≤ 8 ∧ zk_wp G 19 0 [some (.ref b), some (.int x1)] [] h (fun r h' => zk_wp G 53 44 L (r.toList ++ st) h' Q)) := zu_virt (i := 42) (As := [.int x1]) (by decide +kernel) (by decide +kernel) (show zk_na 19 = 1 from by decide +kernel) (by decide +kernel) (Nat.le_of_ble_eq_true rfl) (by decide +kernel) rfl rfl rfl
def u_53_44 := zu_icmp_lt 53 44 63 47 (19) (by decide +kernel) rfl rfl
def u_53_47 := zu_iload_n 53 47 48 2 2 rfl (by decide +kernel) rfl
def u_53_48 := zu_iload 53 48 50 4 (by decide +kernel) rfl
def u_53_50 := zu_aload_n 53 50 51 0 0 rfl (by decide +kernel) rfl
def u_53_51 := zu_get 53 51 54 20 false 7 1 (by decide +kernel) (by decide +kernel) rfl
def u_53_54 := zu_iload_n 53 54 55 3 3 rfl (by decide +kernel) rfl
theorem u_53_55 (G : zk_G) (L : zk_L) (st : List Value) (h : zk_H) (Q : Option Value → zk_H → Prop) (b : Nat) (x1 : Int32) : zk_wp G 53 55 L (.int x1 :: .ref b :: st) h Q ↔ (zk_ic G h b 4 ∧ zk_sum st ≤ 8 ∧ zk_wp G 19 0 [some (.ref b), some (.int x1)] [] h (fun r h' => zk_wp G 53 58 L (r.toList ++ st) h' Q)) := zu_virt (i := 42) (As := [.int x1]) (by decide +kernel) (by decide +kernel) (show zk_na 19 = 1 from by decide +kernel) (by decide +kernel) (Nat.le_of_ble_eq_true rfl) (by decide +kernel) rfl rfl rfl
def u_53_58 := zu_iadd 53 58 59 (by decide +kernel) rfl
theorem u_53_59 (G : zk_G) (L : zk_L) (st : List Value) (h : zk_H) (Q : Option Value → zk_H → Prop) (x1 : Int32) (x2 : Int32) : zk_wp G 53 59 L (.int x2 :: .int x1 :: st) h Q ↔ (zk_sum st ≤ 8 ∧ zk_wp G 197 0 [some (.int x1), some (.int x2)] [] h (fun r h' => zk_wp G 53 62 L (r.toList ++ st) h' Q)) := zu_stat (i := 67) (As := [.int x1, .int x2]) (by decide +kernel) (by decide +kernel) (by decide +kernel) (show zk_na 197 = 2 from by decide +kernel) (by decide +kernel) (Nat.le_of_ble_eq_true rfl) rfl rfl rfl
def u_53_62 := zu_istore_n 53 62 63 2 2 rfl (by decide +kernel) rfl
def u_53_63 := zu_iinc 53 63 66 3 1 1 (by decide) (by decide +kernel) rfl
def u_53_66 := zu_goto 53 66 10 (-56) (by decide +kernel) rfl
def u_53_69 := zu_iload_n 53 69 70 2 2 rfl (by decide +kernel) rfl
def u_53_70 := zu_iret 53 70 (by decide +kernel) (by decide +kernel)
def u_54_0 := zu_lconst 54 0 1 0 0 (by decide) (by decide +kernel) rfl
def u_54_1 := zu_lstore_n 54 1 2 2 2 rfl (by decide +kernel) rfl
def u_54_2 := zu_iconst 54 2 3 0 0 (by decide) (by decide +kernel) rfl
def u_54_3 := zu_istore 54 3 5 4 (by decide +kernel) rfl
def u_54_5 := zu_iload 54 5 7 4 (by decide +kernel) rfl
def u_54_7 := zu_aload_n 54 7 8 0 0 rfl (by decide +kernel) rfl
def u_54_8 := zu_get 54 8 11 23 false 7 2 (by decide +kernel) (by decide +kernel) rfl
def u_54_11 := zu_get 54 11 14 34 true 4 2 (by decide +kernel) (by decide +kernel) rfl
def u_54_14 := zu_icmp_ge 54 14 57 17 (43) (by decide +kernel) rfl rfl
def u_54_17 := zu_aload_n 54 17 18 0 0 rfl (by decide +kernel) rfl
def u_54_18 := zu_get 54 18 21 23 false 7 2 (by decide +kernel) (by decide +kernel) rfl
def u_54_21 := zu_iload 54 21 23 4 (by decide +kernel) rfl
theorem u_54_23 (G : zk_G) (L : zk_L) (st : List Value) (h : zk_H) (Q : Option Value → zk_H → Prop) (b : Nat) (x1 : Int32) : zk_wp G 54 23 L (.int x1 :: .ref b :: st) h Q ↔ (zk_ic G h b 4 ∧ zk_sum st ≤ 8 ∧ zk_wp G 19 0 [some (.ref b), some (.int x1)] [] h (fun r h' => zk_wp G 54 26 L (r.toList ++ st) h' Q)) := zu_virt (i := 42) (As := [.int x1]) (by decide +kernel) (by decide +kernel) (show zk_na 19 = 1 from by decide +kernel) (by decide +kernel) (Nat.le_of_ble_eq_true rfl) (by decide +kernel) rfl rfl rfl
def u_54_26 := zu_iload_n 54 26 27 1 1 rfl (by decide +kernel) rfl
def u_54_27 := zu_isub 54 27 28 (by decide +kernel) rfl
def u_54_28 := zu_istore 54 28 30 5 (by decide +kernel) rfl
def u_54_30 := zu_iload 54 30 32 5 (by decide +kernel) rfl
def u_54_32 := zu_if_lt 54 32 51 35 (19) (by decide +kernel) rfl rfl
def u_54_35 := zu_iload 54 35 37 5 (by decide +kernel) rfl
def u_54_37 := zu_bipush 54 37 39 31 31 (by decide) (by decide +kernel) rfl
def u_54_39 := zu_icmp_ge 54 39 51 42 (12) (by decide +kernel) rfl rfl
def u_54_42 := zu_lload_n 54 42 43 2 2 rfl (by decide +kernel) rfl
def u_54_43 := zu_lconst 54 43 44 1 1 (by decide) (by decide +kernel) rfl
def u_54_44 := zu_iload 54 44 46 5 (by decide +kernel) rfl
def u_54_46 := zu_iconst 54 46 47 1 1 (by decide) (by decide +kernel) rfl
def u_54_47 := zu_iadd 54 47 48 (by decide +kernel) rfl
def u_54_48 := zu_lshl 54 48 49 (by decide +kernel) rfl
def u_54_49 := zu_lor 54 49 50 (by decide +kernel) rfl
def u_54_50 := zu_lstore_n 54 50 51 2 2 rfl (by decide +kernel) rfl
def u_54_51 := zu_iinc 54 51 54 4 1 1 (by decide) (by decide +kernel) rfl
def u_54_54 := zu_goto 54 54 5 (-49) (by decide +kernel) rfl
def u_54_57 := zu_lload_n 54 57 58 2 2 rfl (by decide +kernel) rfl
def u_54_58 := zu_lret 54 58 (by decide +kernel) (by decide +kernel)
def u_55_0 := zu_iload_n 55 0 1 1 1 rfl (by decide +kernel) rfl
def u_55_1 := zu_if_lt 55 1 19 4 (18) (by decide +kernel) rfl rfl
def u_55_4 := zu_iload_n 55 4 5 1 1 rfl (by decide +kernel) rfl
def u_55_5 := zu_bipush 55 5 7 20 20 (by decide) (by decide +kernel) rfl
def u_55_7 := zu_icmp_ge 55 7 19 10 (12) (by decide +kernel) rfl rfl
def u_55_10 := zu_aload_n 55 10 11 0 0 rfl (by decide +kernel) rfl
def u_55_11 := zu_get 55 11 14 26 false 7 3 (by decide +kernel) (by decide +kernel) rfl
def u_55_14 := zu_iload_n 55 14 15 1 1 rfl (by decide +kernel) rfl
def u_55_15 := zu_iaload 55 15 16 (by decide +kernel) rfl
def u_55_16 := zu_goto 55 16 21 (5) (by decide +kernel) rfl
def u_55_19 := zu_ldc 55 19 21 56 2147483647 (by decide +kernel) (by decide +kernel) rfl
def u_55_21 := zu_iret 55 21 (by decide +kernel) (by decide +kernel)
def u_56_0 := zu_aload_n 56 0 1 0 0 rfl (by decide +kernel) rfl
def u_56_1 := zu_iload_n 56 1 2 1 1 rfl (by decide +kernel) rfl
theorem u_56_2 (G : zk_G) (L : zk_L) (st : List Value) (h : zk_H) (Q : Option Value → zk_H → Prop) (b : Nat) (x1 : Int32) : zk_wp G 56 2 L (.int x1 :: .ref b :: st) h Q ↔ (zk_ic G h b 7 ∧ zk_sum st ≤ 8 ∧ zk_wp G 50 0 [some (.ref b), some (.int x1), none, none] [] h (fun r h' => zk_wp G 56 5 L (r.toList ++ st) h' Q)) := zu_virt (i := 47) (As := [.int x1]) (by decide +kernel) (by decide +kernel) (show zk_na 50 = 1 from by decide +kernel) (by decide +kernel) (Nat.le_of_ble_eq_true rfl) (by decide +kernel) rfl rfl rfl
def u_56_5 := zu_sipush 56 5 8 1440 1440 (by decide) (by decide +kernel) rfl
theorem u_56_8 (G : zk_G) (L : zk_L) (st : List Value) (h : zk_H) (Q : Option Value → zk_H → Prop) (x1 : Int32) (x2 : Int32) : zk_wp G 56 8 L (.int x2 :: .int x1 :: st) h Q ↔ (zk_sum st ≤ 8 ∧ zk_wp G 201 0 [some (.int x1), some (.int x2), none] [] h (fun r h' => zk_wp G 56 11 L (r.toList ++ st) h' Q)) := zu_stat (i := 50) (As := [.int x1, .int x2]) (by decide +kernel) (by decide +kernel) (by decide +kernel) (show zk_na 201 = 2 from by decide +kernel) (by decide +kernel) (Nat.le_of_ble_eq_true rfl) rfl rfl rfl
def u_56_11 := zu_iret 56 11 (by decide +kernel) (by decide +kernel)
def u_57_0 := zu_aload_n 57 0 1 0 0 rfl (by decide +kernel) rfl
def u_57_1 := zu_get 57 1 4 14 false 7 0 (by decide +kernel) (by decide +kernel) rfl
def u_57_4 := zu_get 57 4 7 34 true 4 2 (by decide +kernel) (by decide +kernel) rfl
def u_57_7 := zu_iret 57 7 (by decide +kernel) (by decide +kernel)
def u_58_0 := zu_aload_n 58 0 1 0 0 rfl (by decide +kernel) rfl
def u_58_1 := zu_get 58 1 4 14 false 7 0 (by decide +kernel) (by decide +kernel) rfl
def u_58_4 := zu_iload_n 58 4 5 1 1 rfl (by decide +kernel) rfl
theorem u_58_5 (G : zk_G) (L : zk_L) (st : List Value) (h : zk_H) (Q : Option Value → zk_H → Prop) (b : Nat) (x1 : Int32) : zk_wp G 58 5 L (.int x1 :: .ref b :: st) h Q ↔ (zk_ic G h b 4 ∧ zk_sum st ≤ 8 ∧ zk_wp G 19 0 [some (.ref b), some (.int x1)] [] h (fun r h' => zk_wp G 58 8 L (r.toList ++ st) h' Q)) := zu_virt (i := 42) (As := [.int x1]) (by decide +kernel) (by decide +kernel) (show zk_na 19 = 1 from by decide +kernel) (by decide +kernel) (Nat.le_of_ble_eq_true rfl) (by decide +kernel) rfl rfl rfl
def u_58_8 := zu_iload_n 58 8 9 2 2 rfl (by decide +kernel) rfl
def u_58_9 := zu_sipush 58 9 12 1440 1440 (by decide) (by decide +kernel) rfl
def u_58_12 := zu_imul 58 12 13 (by decide +kernel) rfl
def u_58_13 := zu_aload_n 58 13 14 0 0 rfl (by decide +kernel) rfl
def u_58_14 := zu_get 58 14 17 20 false 7 1 (by decide +kernel) (by decide +kernel) rfl
def u_58_17 := zu_iload_n 58 17 18 1 1 rfl (by decide +kernel) rfl
theorem u_58_18 (G : zk_G) (L : zk_L) (st : List Value) (h : zk_H) (Q : Option Value → zk_H → Prop) (b : Nat) (x1 : Int32) : zk_wp G 58 18 L (.int x1 :: .ref b :: st) h Q ↔ (zk_ic G h b 4 ∧ zk_sum st ≤ 8 ∧ zk_wp G 19 0 [some (.ref b), some (.int x1)] [] h (fun r h' => zk_wp G 58 21 L (r.toList ++ st) h' Q)) := zu_virt (i := 42) (As := [.int x1]) (by decide +kernel) (by decide +kernel) (show zk_na 19 = 1 from by decide +kernel) (by decide +kernel) (Nat.le_of_ble_eq_true rfl) (by decide +kernel) rfl rfl rfl
def u_58_21 := zu_isub 58 21 22 (by decide +kernel) rfl
theorem u_58_22 (G : zk_G) (L : zk_L) (st : List Value) (h : zk_H) (Q : Option Value → zk_H → Prop) (x1 : Int32) (x2 : Int32) : zk_wp G 58 22 L (.int x2 :: .int x1 :: st) h Q ↔ (zk_sum st ≤ 8 ∧ zk_wp G 197 0 [some (.int x1), some (.int x2)] [] h (fun r h' => zk_wp G 58 25 L (r.toList ++ st) h' Q)) := zu_stat (i := 67) (As := [.int x1, .int x2]) (by decide +kernel) (by decide +kernel) (by decide +kernel) (show zk_na 197 = 2 from by decide +kernel) (by decide +kernel) (Nat.le_of_ble_eq_true rfl) rfl rfl rfl
def u_58_25 := zu_iret 58 25 (by decide +kernel) (by decide +kernel)
def u_59_0 := zu_aload_n 59 0 1 0 0 rfl (by decide +kernel) rfl
def u_59_1 := zu_iload_n 59 1 2 1 1 rfl (by decide +kernel) rfl
theorem u_59_2 (G : zk_G) (L : zk_L) (st : List Value) (h : zk_H) (Q : Option Value → zk_H → Prop) (b : Nat) (x1 : Int32) : zk_wp G 59 2 L (.int x1 :: .ref b :: st) h Q ↔ (zk_ic G h b 7 ∧ zk_sum st ≤ 8 ∧ zk_wp G 52 0 [some (.ref b), some (.int x1)] [] h (fun r h' => zk_wp G 59 5 L (r.toList ++ st) h' Q)) := zu_virt (i := 61) (As := [.int x1]) (by decide +kernel) (by decide +kernel) (show zk_na 52 = 1 from by decide +kernel) (by decide +kernel) (Nat.le_of_ble_eq_true rfl) (by decide +kernel) rfl rfl rfl
def u_59_5 := zu_iload_n 59 5 6 2 2 rfl (by decide +kernel) rfl
def u_59_6 := zu_sipush 59 6 9 1440 1440 (by decide) (by decide +kernel) rfl
def u_59_9 := zu_imul 59 9 10 (by decide +kernel) rfl
def u_59_10 := zu_sipush 59 10 13 1440 1440 (by decide) (by decide +kernel) rfl
def u_59_13 := zu_iadd 59 13 14 (by decide +kernel) rfl
def u_59_14 := zu_iconst 59 14 15 1 1 (by decide) (by decide +kernel) rfl
def u_59_15 := zu_isub 59 15 16 (by decide +kernel) rfl
def u_59_16 := zu_aload_n 59 16 17 0 0 rfl (by decide +kernel) rfl
def u_59_17 := zu_get 59 17 20 20 false 7 1 (by decide +kernel) (by decide +kernel) rfl
def u_59_20 := zu_iload_n 59 20 21 1 1 rfl (by decide +kernel) rfl
theorem u_59_21 (G : zk_G) (L : zk_L) (st : List Value) (h : zk_H) (Q : Option Value → zk_H → Prop) (b : Nat) (x1 : Int32) : zk_wp G 59 21 L (.int x1 :: .ref b :: st) h Q ↔ (zk_ic G h b 4 ∧ zk_sum st ≤ 8 ∧ zk_wp G 19 0 [some (.ref b), some (.int x1)] [] h (fun r h' => zk_wp G 59 24 L (r.toList ++ st) h' Q)) := zu_virt (i := 42) (As := [.int x1]) (by decide +kernel) (by decide +kernel) (show zk_na 19 = 1 from by decide +kernel) (by decide +kernel) (Nat.le_of_ble_eq_true rfl) (by decide +kernel) rfl rfl rfl
def u_59_24 := zu_isub 59 24 25 (by decide +kernel) rfl
theorem u_59_25 (G : zk_G) (L : zk_L) (st : List Value) (h : zk_H) (Q : Option Value → zk_H → Prop) (x1 : Int32) (x2 : Int32) : zk_wp G 59 25 L (.int x2 :: .int x1 :: st) h Q ↔ (zk_sum st ≤ 8 ∧ zk_wp G 198 0 [some (.int x1), some (.int x2)] [] h (fun r h' => zk_wp G 59 28 L (r.toList ++ st) h' Q)) := zu_stat (i := 64) (As := [.int x1, .int x2]) (by decide +kernel) (by decide +kernel) (by decide +kernel) (show zk_na 198 = 2 from by decide +kernel) (by decide +kernel) (Nat.le_of_ble_eq_true rfl) rfl rfl rfl
def u_59_28 := zu_iret 59 28 (by decide +kernel) (by decide +kernel)
def u_192_0 := zu_iload_n 192 0 1 0 0 rfl (by decide +kernel) rfl
def u_192_1 := zu_iconst 192 1 2 5 5 (by decide) (by decide +kernel) rfl
def u_192_2 := zu_iadd 192 2 3 (by decide +kernel) rfl
def u_192_3 := zu_bipush 192 3 5 7 7 (by decide) (by decide +kernel) rfl
theorem u_192_5 (G : zk_G) (L : zk_L) (st : List Value) (h : zk_H) (Q : Option Value → zk_H → Prop) (x1 : Int32) (x2 : Int32) : zk_wp G 192 5 L (.int x2 :: .int x1 :: st) h Q ↔ (zk_sum st ≤ 8 ∧ zk_wp G 199 0 [some (.int x1), some (.int x2), none] [] h (fun r h' => zk_wp G 192 8 L (r.toList ++ st) h' Q)) := zu_stat (i := 9) (As := [.int x1, .int x2]) (by decide +kernel) (by decide +kernel) (by decide +kernel) (show zk_na 199 = 2 from by decide +kernel) (by decide +kernel) (Nat.le_of_ble_eq_true rfl) rfl rfl rfl
def u_192_8 := zu_iret 192 8 (by decide +kernel) (by decide +kernel)
def u_193_0 := zu_iload_n 193 0 1 0 0 rfl (by decide +kernel) rfl
def u_193_1 := zu_sipush 193 1 4 1461 1461 (by decide) (by decide +kernel) rfl
theorem u_193_4 (G : zk_G) (L : zk_L) (st : List Value) (h : zk_H) (Q : Option Value → zk_H → Prop) (x1 : Int32) (x2 : Int32) : zk_wp G 193 4 L (.int x2 :: .int x1 :: st) h Q ↔ (zk_sum st ≤ 8 ∧ zk_wp G 199 0 [some (.int x1), some (.int x2), none] [] h (fun r h' => zk_wp G 193 7 L (r.toList ++ st) h' Q)) := zu_stat (i := 9) (As := [.int x1, .int x2]) (by decide +kernel) (by decide +kernel) (by decide +kernel) (show zk_na 199 = 2 from by decide +kernel) (by decide +kernel) (Nat.le_of_ble_eq_true rfl) rfl rfl rfl
def u_193_7 := zu_istore_n 193 7 8 1 1 rfl (by decide +kernel) rfl
def u_193_8 := zu_iload_n 193 8 9 1 1 rfl (by decide +kernel) rfl
def u_193_9 := zu_bipush 193 9 11 31 31 (by decide) (by decide +kernel) rfl
def u_193_11 := zu_idiv 193 11 12 (by decide +kernel) rfl
def u_193_12 := zu_istore_n 193 12 13 2 2 rfl (by decide +kernel) rfl
def u_193_13 := zu_iload_n 193 13 14 2 2 rfl (by decide +kernel) rfl
def u_193_14 := zu_iconst 193 14 15 1 1 (by decide) (by decide +kernel) rfl
def u_193_15 := zu_iadd 193 15 16 (by decide +kernel) rfl
def u_193_16 := zu_bipush 193 16 18 48 48 (by decide) (by decide +kernel) rfl
def u_193_18 := zu_icmp_ge 193 18 38 21 (20) (by decide +kernel) rfl rfl
def u_193_21 := zu_gets0 193 21 24 (by decide +kernel) (by decide +kernel) rfl
def u_193_24 := zu_iload_n 193 24 25 2 2 rfl (by decide +kernel) rfl
def u_193_25 := zu_iconst 193 25 26 1 1 (by decide) (by decide +kernel) rfl
def u_193_26 := zu_iadd 193 26 27 (by decide +kernel) rfl
def u_193_27 := zu_iaload 193 27 28 (by decide +kernel) rfl
def u_193_28 := zu_iload_n 193 28 29 1 1 rfl (by decide +kernel) rfl
def u_193_29 := zu_icmp_gt 193 29 38 32 (9) (by decide +kernel) rfl rfl
def u_193_32 := zu_iinc 193 32 35 2 1 1 (by decide) (by decide +kernel) rfl
def u_193_35 := zu_goto 193 35 13 (-22) (by decide +kernel) rfl
def u_193_38 := zu_iload_n 193 38 39 0 0 rfl (by decide +kernel) rfl
def u_193_39 := zu_sipush 193 39 42 1461 1461 (by decide) (by decide +kernel) rfl
theorem u_193_42 (G : zk_G) (L : zk_L) (st : List Value) (h : zk_H) (Q : Option Value → zk_H → Prop) (x1 : Int32) (x2 : Int32) : zk_wp G 193 42 L (.int x2 :: .int x1 :: st) h Q ↔ (zk_sum st ≤ 8 ∧ zk_wp G 201 0 [some (.int x1), some (.int x2), none] [] h (fun r h' => zk_wp G 193 45 L (r.toList ++ st) h' Q)) := zu_stat (i := 19) (As := [.int x1, .int x2]) (by decide +kernel) (by decide +kernel) (by decide +kernel) (show zk_na 201 = 2 from by decide +kernel) (by decide +kernel) (Nat.le_of_ble_eq_true rfl) rfl rfl rfl
def u_193_45 := zu_bipush 193 45 47 48 48 (by decide) (by decide +kernel) rfl
def u_193_47 := zu_imul 193 47 48 (by decide +kernel) rfl
def u_193_48 := zu_iload_n 193 48 49 2 2 rfl (by decide +kernel) rfl
def u_193_49 := zu_iadd 193 49 50 (by decide +kernel) rfl
def u_193_50 := zu_iret 193 50 (by decide +kernel) (by decide +kernel)
def u_194_0 := zu_sipush 194 0 3 2000 2000 (by decide) (by decide +kernel) rfl
def u_194_3 := zu_iload_n 194 3 4 0 0 rfl (by decide +kernel) rfl
def u_194_4 := zu_bipush 194 4 6 12 12 (by decide) (by decide +kernel) rfl
theorem u_194_6 (G : zk_G) (L : zk_L) (st : List Value) (h : zk_H) (Q : Option Value → zk_H → Prop) (x1 : Int32) (x2 : Int32) : zk_wp G 194 6 L (.int x2 :: .int x1 :: st) h Q ↔ (zk_sum st ≤ 8 ∧ zk_wp G 201 0 [some (.int x1), some (.int x2), none] [] h (fun r h' => zk_wp G 194 9 L (r.toList ++ st) h' Q)) := zu_stat (i := 19) (As := [.int x1, .int x2]) (by decide +kernel) (by decide +kernel) (by decide +kernel) (show zk_na 201 = 2 from by decide +kernel) (by decide +kernel) (Nat.le_of_ble_eq_true rfl) rfl rfl rfl
def u_194_9 := zu_iadd 194 9 10 (by decide +kernel) rfl
def u_194_10 := zu_iret 194 10 (by decide +kernel) (by decide +kernel)
def u_195_0 := zu_iload_n 195 0 1 0 0 rfl (by decide +kernel) rfl
def u_195_1 := zu_bipush 195 1 3 12 12 (by decide) (by decide +kernel) rfl
theorem u_195_3 (G : zk_G) (L : zk_L) (st : List Value) (h : zk_H) (Q : Option Value → zk_H → Prop) (x1 : Int32) (x2 : Int32) : zk_wp G 195 3 L (.int x2 :: .int x1 :: st) h Q ↔ (zk_sum st ≤ 8 ∧ zk_wp G 199 0 [some (.int x1), some (.int x2), none] [] h (fun r h' => zk_wp G 195 6 L (r.toList ++ st) h' Q)) := zu_stat (i := 9) (As := [.int x1, .int x2]) (by decide +kernel) (by decide +kernel) (by decide +kernel) (show zk_na 199 = 2 from by decide +kernel) (by decide +kernel) (Nat.le_of_ble_eq_true rfl) rfl rfl rfl
def u_195_6 := zu_iconst 195 6 7 1 1 (by decide) (by decide +kernel) rfl
def u_195_7 := zu_iadd 195 7 8 (by decide +kernel) rfl
def u_195_8 := zu_iret 195 8 (by decide +kernel) (by decide +kernel)
def u_196_0 := zu_iload_n 196 0 1 0 0 rfl (by decide +kernel) rfl
def u_196_1 := zu_bipush 196 1 3 48 48 (by decide) (by decide +kernel) rfl
theorem u_196_3 (G : zk_G) (L : zk_L) (st : List Value) (h : zk_H) (Q : Option Value → zk_H → Prop) (x1 : Int32) (x2 : Int32) : zk_wp G 196 3 L (.int x2 :: .int x1 :: st) h Q ↔ (zk_sum st ≤ 8 ∧ zk_wp G 201 0 [some (.int x1), some (.int x2), none] [] h (fun r h' => zk_wp G 196 6 L (r.toList ++ st) h' Q)) := zu_stat (i := 19) (As := [.int x1, .int x2]) (by decide +kernel) (by decide +kernel) (by decide +kernel) (show zk_na 201 = 2 from by decide +kernel) (by decide +kernel) (Nat.le_of_ble_eq_true rfl) rfl rfl rfl
def u_196_6 := zu_sipush 196 6 9 1461 1461 (by decide) (by decide +kernel) rfl
def u_196_9 := zu_imul 196 9 10 (by decide +kernel) rfl
def u_196_10 := zu_gets0 196 10 13 (by decide +kernel) (by decide +kernel) rfl
def u_196_13 := zu_iload_n 196 13 14 0 0 rfl (by decide +kernel) rfl
def u_196_14 := zu_bipush 196 14 16 48 48 (by decide) (by decide +kernel) rfl
theorem u_196_16 (G : zk_G) (L : zk_L) (st : List Value) (h : zk_H) (Q : Option Value → zk_H → Prop) (x1 : Int32) (x2 : Int32) : zk_wp G 196 16 L (.int x2 :: .int x1 :: st) h Q ↔ (zk_sum st ≤ 8 ∧ zk_wp G 199 0 [some (.int x1), some (.int x2), none] [] h (fun r h' => zk_wp G 196 19 L (r.toList ++ st) h' Q)) := zu_stat (i := 9) (As := [.int x1, .int x2]) (by decide +kernel) (by decide +kernel) (by decide +kernel) (show zk_na 199 = 2 from by decide +kernel) (by decide +kernel) (Nat.le_of_ble_eq_true rfl) rfl rfl rfl
def u_196_19 := zu_iaload 196 19 20 (by decide +kernel) rfl
def u_196_20 := zu_iadd 196 20 21 (by decide +kernel) rfl
def u_196_21 := zu_iret 196 21 (by decide +kernel) (by decide +kernel)
