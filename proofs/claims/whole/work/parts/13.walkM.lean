def F_X11_thrown (v_thrown : Int32) : Option (Int32) := some v_thrown
def F_X11_isIn (x0 : Int64) (x2 : Int64) (x4 : Int64) : Option (Int32) := if (lg_cmp x0 x2) < 0 then (some (0 : Int32)) else (if 0 < (lg_cmp x0 x4) then (some (0 : Int32)) else (some (1 : Int32)))
def S_X11_begins_2  (k : Int32 × (Nat → Int64) → Option (((Nat → Int64)))) (l1_1 : Int32) (v_fresh_2 : Nat → Int64) : Option (((Nat → Int64))) := if (499 : Int32) ≤ l1_1 then (some (v_fresh_2)) else (gi l1_1 499 (k ((l1_1 + (1 : Int32)), (vp_updL v_fresh_2 l1_1.toNatClampNeg (0 : Int64)))))
def F_X11_begins (v_fresh : Nat → Int64) : Option ((Nat → Int64)) := ob1 (wh (fun k q => S_X11_begins_2 k q.1 q.2) wF ((0 : Int32), v_fresh)) (fun e_6 => gi (0 : Int32) 499 (gi (1 : Int32) 499 (gi (2 : Int32) 499 (gi (3 : Int32) 499 (gi (4 : Int32) 499 (gi (5 : Int32) 499 (some (vp_updL (vp_updL (vp_updL (vp_updL (vp_updL (vp_updL e_6 (0 : Int32).toNatClampNeg (60 : Int64)) (1 : Int32).toNatClampNeg (600 : Int64)) (2 : Int32).toNatClampNeg (2 : Int64)) (3 : Int32).toNatClampNeg (40 : Int64)) (4 : Int32).toNatClampNeg (5 : Int64)) (5 : Int32).toNatClampNeg (30 : Int64)))))))))
def F_X11_see (x1 : Int32) (v_size : Int32) (v_buffer : Nat → Int32) : Option (Int32) := if v_size ≤ x1 then (some (-1 : Int32)) else (gi x1 900 (some (v_buffer x1.toNatClampNeg)))
def F_X11_isLetter (x0 : Int32) : Option (Int32) := ob1 (F_X11_isIn (x0.toInt64) (97 : Int64) (122 : Int64)) (fun r_1 => gb r_1 (some r_1))
def F_X11_isDigit (x0 : Int32) : Option (Int32) := ob1 (F_X11_isIn (x0.toInt64) (48 : Int64) (57 : Int64)) (fun r_1 => gb r_1 (some r_1))
def S_X11_next_8 (v_size : Int32) (v_behind_2 : Int32) (v_kind_3 : Int32) (v_number_4 : Int64) (v_buffer : Nat → Int32) (k : (Int32) → Option (((Int32)))) (v_at_1 : Int32) : Option (((Int32))) := ob1 (F_X11_see v_at_1 v_size v_buffer) (fun r_5 => if r_5 = (32 : Int32) then (k (v_at_1 + (1 : Int32))) else (some (v_at_1)))
def F_X11_next_b180 (k : (Int32) × (Int64) → Option (((Int32) × (Int64)))) (v_size : Int32) (v_at_13 : Int32) (v_behind_17 : Int32) (v_kind_15 : Int32) (v_number_18 : Int64) (v_buffer : Nat → Int32) : Option (((Int32) × (Int64))) := k ((v_behind_17 + (1 : Int32)), v_number_18)
def S_X11_next_129 (v_size : Int32) (v_at_13 : Int32) (v_kind_15 : Int32) (v_buffer : Nat → Int32) (k : (Int32) × (Int64) → Option (((Int32) × (Int64)))) (v_behind_14 : Int32) (v_number_16 : Int64) : Option (((Int32) × (Int64))) := ob1 (F_X11_see v_behind_14 v_size v_buffer) (fun r_19 => ob1 (F_X11_isDigit r_19) (fun r_20 => if r_20 = 0 then (some (v_behind_14, v_number_16)) else (if 0 ≤ (lg_cmp v_number_16 (100000 : Int64)) then (F_X11_next_b180 k v_size v_at_13 v_behind_14 v_kind_15 v_number_16 v_buffer) else (ob1 (F_X11_see v_behind_14 v_size v_buffer) (fun r_21 => F_X11_next_b180 k v_size v_at_13 v_behind_14 v_kind_15 ((((10 : Int64) * v_number_16) + (r_21.toInt64)) - (48 : Int64)) v_buffer)))))
def S_X11_next_75 (v_size : Int32) (v_at_29 : Int32) (v_kind_31 : Int32) (v_number_32 : Int64) (v_buffer : Nat → Int32) (k : (Int32) → Option (((Int32)))) (v_behind_30 : Int32) : Option (((Int32))) := ob1 (F_X11_see v_behind_30 v_size v_buffer) (fun r_33 => ob1 (F_X11_isLetter r_33) (fun r_34 => if r_34 = 0 then (some (v_behind_30)) else (k (v_behind_30 + (1 : Int32)))))
def F_X11_next (v_size : Int32) (v_at : Int32) (v_behind : Int32) (v_kind : Int32) (v_number : Int64) (v_buffer : Nat → Int32) : Option ((Int32) × (Int32) × (Int32) × (Int64)) := ob1 (wh (fun k q => S_X11_next_8 v_size v_behind v_kind v_number v_buffer k q) wF v_behind) (fun e_8 => if e_8 < v_size then (ob1 (F_X11_see e_8 v_size v_buffer) (fun r_9 => ob1 (F_X11_isLetter r_9) (fun r_10 => if r_10 = 0 then (ob1 (F_X11_see e_8 v_size v_buffer) (fun r_11 => ob1 (F_X11_isDigit r_11) (fun r_12 => if r_12 = 0 then (some (e_8, (e_8 + (1 : Int32)), (2 : Int32), v_number)) else (ob2 (wh (fun k q => S_X11_next_129 v_size e_8 v_kind v_buffer k q.1 q.2) wF (e_8, (0 : Int64))) (fun e_26 e_27 => some (e_8, e_26, (1 : Int32), e_27)))))) else (ob1 (wh (fun k q => S_X11_next_75 v_size e_8 v_kind v_number v_buffer k q) wF e_8) (fun e_37 => some (e_8, e_37, (0 : Int32), v_number)))))) else (some (e_8, e_8, (3 : Int32), v_number)))
def S_X11_isWord_34 (s1 : Nat) (v_at : Int32) (v_buffer : Nat → Int32) (k : Int32 → Option ((Unit) ⊕ (Unit))) (l2_1 : Int32) : Option ((Unit) ⊕ (Unit)) := if (Int32.ofNat (gq_tl.getD s1 0) >>> ((0 : Int32) &&& 31)) ≤ l2_1 then (some (.inr ())) else (gi (v_at + l2_1) 900 (gi l2_1 (gq_tl.getD s1 0) (if (v_buffer (v_at + l2_1).toNatClampNeg) = (gq_ch s1 l2_1) then (k (l2_1 + (1 : Int32))) else (some (.inl ())))))
def F_X11_isWord (s1 : Nat) (v_at : Int32) (v_behind : Int32) (v_kind : Int32) (v_wrong : Int32) (v_buffer : Nat → Int32) : Option (Int32) := if v_wrong = 0 then (if v_kind = 0 then (if (v_behind - v_at) = (Int32.ofNat (gq_tl.getD s1 0) >>> ((0 : Int32) &&& 31)) then (ob1 (wh (fun k q => S_X11_isWord_34 s1 v_at v_buffer k q) wF (0 : Int32)) (Sum.elim (un1 (fun _u => some (0 : Int32))) (un1 (fun _u => some (1 : Int32))))) else (some (0 : Int32))) else (some (0 : Int32))) else (some (0 : Int32))
def F_X11_fails (x1 : Int32) (v_at : Int32) (v_wrong : Int32) (v_wrongAt : Int32) : Option ((Int32) × (Int32)) := if v_wrong = 0 then (some (x1, v_at)) else (some (v_wrong, v_wrongAt))
def F_X11_must_b10 (v_size : Int32) (v_at_1 : Int32) (v_behind_2 : Int32) (v_kind_3 : Int32) (v_wrong_4 : Int32) (v_wrongAt_5 : Int32) (v_number_6 : Int64) (v_buffer : Nat → Int32) : Option ((Int32) × (Int32) × (Int32) × (Int32) × (Int32) × (Int64)) := if v_wrong_4 = 0 then (ob4 (F_X11_next v_size v_at_1 v_behind_2 v_kind_3 v_number_6 v_buffer) (fun v_at_7 v_behind_8 v_kind_9 v_number_10 => some (v_at_7, v_behind_8, v_kind_9, v_wrong_4, v_wrongAt_5, v_number_10))) else (some (v_at_1, v_behind_2, v_kind_3, v_wrong_4, v_wrongAt_5, v_number_6))
def F_X11_must (x1 : Int32) (v_size : Int32) (v_at : Int32) (v_behind : Int32) (v_kind : Int32) (v_wrong : Int32) (v_wrongAt : Int32) (v_number : Int64) (v_buffer : Nat → Int32) : Option ((Int32) × (Int32) × (Int32) × (Int32) × (Int32) × (Int64)) := if x1 = 0 then (ob2 (F_X11_fails (-2 : Int32) v_at v_wrong v_wrongAt) (fun v_wrong_12 v_wrongAt_13 => F_X11_must_b10 v_size v_at v_behind v_kind v_wrong_12 v_wrongAt_13 v_number v_buffer)) else (F_X11_must_b10 v_size v_at v_behind v_kind v_wrong v_wrongAt v_number v_buffer)
def F_X11_takes_b67 (st_1 : Int32) (v_size : Int32) (v_at_2 : Int32) (v_behind_3 : Int32) (v_kind_4 : Int32) (v_wrong_5 : Int32) (v_wrongAt_6 : Int32) (v_number_7 : Int64) (v_buffer : Nat → Int32) : Option (Int32 × (Int32) × (Int32) × (Int32) × (Int32) × (Int32) × (Int64)) := if v_wrong_5 = 0 then (ob4 (F_X11_next v_size v_at_2 v_behind_3 v_kind_4 v_number_7 v_buffer) (fun v_at_8 v_behind_9 v_kind_10 v_number_11 => some (st_1, v_at_8, v_behind_9, v_kind_10, v_wrong_5, v_wrongAt_6, v_number_11))) else (some (st_1, v_at_2, v_behind_3, v_kind_4, v_wrong_5, v_wrongAt_6, v_number_7))
def F_X11_takes_b51 (v_size : Int32) (v_at_13 : Int32) (v_behind_14 : Int32) (v_kind_15 : Int32) (v_wrong_16 : Int32) (v_wrongAt_17 : Int32) (v_number_18 : Int64) (v_buffer : Nat → Int32) : Option (Int32 × (Int32) × (Int32) × (Int32) × (Int32) × (Int32) × (Int64)) := if v_wrong_16 = 0 then (F_X11_takes_b67 (v_number_18.toInt32) v_size v_at_13 v_behind_14 v_kind_15 v_wrong_16 v_wrongAt_17 v_number_18 v_buffer) else (F_X11_takes_b67 (0 : Int32) v_size v_at_13 v_behind_14 v_kind_15 v_wrong_16 v_wrongAt_17 v_number_18 v_buffer)
def F_X11_takes_b24 (x1 : Int32) (x2 : Int32) (v_size : Int32) (v_at_20 : Int32) (v_behind_21 : Int32) (v_kind_22 : Int32) (v_wrong_23 : Int32) (v_wrongAt_24 : Int32) (v_number_25 : Int64) (v_buffer : Nat → Int32) : Option (Int32 × (Int32) × (Int32) × (Int32) × (Int32) × (Int32) × (Int64)) := if v_wrong_23 = 0 then (ob1 (F_X11_isIn v_number_25 (x1.toInt64) (x2.toInt64)) (fun r_26 => if r_26 = 0 then (ob2 (F_X11_fails (-3 : Int32) v_at_20 v_wrong_23 v_wrongAt_24) (fun v_wrong_27 v_wrongAt_28 => F_X11_takes_b51 v_size v_at_20 v_behind_21 v_kind_22 v_wrong_27 v_wrongAt_28 v_number_25 v_buffer)) else (F_X11_takes_b51 v_size v_at_20 v_behind_21 v_kind_22 v_wrong_23 v_wrongAt_24 v_number_25 v_buffer))) else (F_X11_takes_b51 v_size v_at_20 v_behind_21 v_kind_22 v_wrong_23 v_wrongAt_24 v_number_25 v_buffer)
def F_X11_takes (x1 : Int32) (x2 : Int32) (v_size : Int32) (v_at : Int32) (v_behind : Int32) (v_kind : Int32) (v_wrong : Int32) (v_wrongAt : Int32) (v_number : Int64) (v_buffer : Nat → Int32) : Option (Int32 × (Int32) × (Int32) × (Int32) × (Int32) × (Int32) × (Int64)) := if v_wrong = 0 then (if v_kind = (1 : Int32) then (F_X11_takes_b24 x1 x2 v_size v_at v_behind v_kind v_wrong v_wrongAt v_number v_buffer) else (ob2 (F_X11_fails (-2 : Int32) v_at v_wrong v_wrongAt) (fun v_wrong_31 v_wrongAt_32 => F_X11_takes_b51 v_size v_at v_behind v_kind v_wrong_31 v_wrongAt_32 v_number v_buffer))) else (F_X11_takes_b24 x1 x2 v_size v_at v_behind v_kind v_wrong v_wrongAt v_number v_buffer)
def F_X11_takesWord_b191 (l6_1 : Int32) (v_size : Int32) (v_at_2 : Int32) (v_behind_3 : Int32) (v_kind_4 : Int32) (v_wrong_5 : Int32) (v_wrongAt_6 : Int32) (v_number_7 : Int64) (v_fresh_8 : Nat → Int64) (v_buffer : Nat → Int32) : Option (Int32 × (Int32) × (Int32) × (Int32) × (Int32) × (Int32) × (Int64) × (Nat → Int64)) := ob4 (F_X11_next v_size v_at_2 v_behind_3 v_kind_4 v_number_7 v_buffer) (fun v_at_9 v_behind_10 v_kind_11 v_number_12 => some (l6_1, v_at_9, v_behind_10, v_kind_11, v_wrong_5, v_wrongAt_6, v_number_12, v_fresh_8))
def F_X11_takesWord_b152 (l3_13 : Int64) (l5_14 : Int32) (l6_15 : Int32) (v_size : Int32) (v_at_16 : Int32) (v_behind_17 : Int32) (v_kind_18 : Int32) (v_wrong_19 : Int32) (v_wrongAt_20 : Int32) (v_number_21 : Int64) (v_fresh_22 : Nat → Int64) (v_buffer : Nat → Int32) : Option (Int32 × (Int32) × (Int32) × (Int32) × (Int32) × (Int32) × (Int64) × (Nat → Int64)) := if v_wrong_19 = 0 then (if l6_15 = l5_14 then (gi ((475 : Int32) + l5_14) 499 (gi (7 : Int32) 499 (gi (7 : Int32) 499 (F_X11_takesWord_b191 l6_15 v_size v_at_16 v_behind_17 v_kind_18 v_wrong_19 v_wrongAt_20 v_number_21 (vp_updL (vp_updL v_fresh_22 ((475 : Int32) + l5_14).toNatClampNeg l3_13) (7 : Int32).toNatClampNeg (((vp_updL v_fresh_22 ((475 : Int32) + l5_14).toNatClampNeg l3_13) (7 : Int32).toNatClampNeg) + (1 : Int64))) v_buffer)))) else (F_X11_takesWord_b191 l6_15 v_size v_at_16 v_behind_17 v_kind_18 v_wrong_19 v_wrongAt_20 v_number_21 v_fresh_22 v_buffer)) else (some ((0 : Int32), v_at_16, v_behind_17, v_kind_18, v_wrong_19, v_wrongAt_20, v_number_21, v_fresh_22))
def F_X11_takesWord_b139 (l3_28 : Int64) (l5_29 : Int32) (l6_30 : Int32) (v_size : Int32) (v_at_31 : Int32) (v_behind_32 : Int32) (v_kind_33 : Int32) (v_wrong_34 : Int32) (v_wrongAt_35 : Int32) (v_number_36 : Int64) (v_fresh_37 : Nat → Int64) (v_buffer : Nat → Int32) : Option (Int32 × (Int32) × (Int32) × (Int32) × (Int32) × (Int32) × (Int64) × (Nat → Int64)) := if l6_30 = (24 : Int32) then (ob2 (F_X11_fails (-4 : Int32) v_at_31 v_wrong_34 v_wrongAt_35) (fun v_wrong_38 v_wrongAt_39 => F_X11_takesWord_b152 l3_28 l5_29 l6_30 v_size v_at_31 v_behind_32 v_kind_33 v_wrong_38 v_wrongAt_39 v_number_36 v_fresh_37 v_buffer)) else (F_X11_takesWord_b152 l3_28 l5_29 l6_30 v_size v_at_31 v_behind_32 v_kind_33 v_wrong_34 v_wrongAt_35 v_number_36 v_fresh_37 v_buffer)
def S_X11_takesWord_110 (l3_50 : Int64) (l5_51 : Int32) (v_size : Int32) (v_at_53 : Int32) (v_behind_54 : Int32) (v_kind_55 : Int32) (v_wrong_56 : Int32) (v_wrongAt_57 : Int32) (v_number_58 : Int64) (v_fresh_59 : Nat → Int64) (v_buffer : Nat → Int32) (k : Int32 → Option ((Int32))) (l6_52 : Int32) : Option ((Int32)) := if l5_51 ≤ l6_52 then (some (l6_52)) else (gi ((475 : Int32) + l6_52) 499 (if (lg_cmp (v_fresh_59 ((475 : Int32) + l6_52).toNatClampNeg) l3_50) = 0 then (some (l6_52)) else (k (l6_52 + (1 : Int32)))))
def F_X11_takesWord_b97 (l3_41 : Int64) (v_size : Int32) (v_at_42 : Int32) (v_behind_43 : Int32) (v_kind_44 : Int32) (v_wrong_45 : Int32) (v_wrongAt_46 : Int32) (v_number_47 : Int64) (v_fresh_48 : Nat → Int64) (v_buffer : Nat → Int32) : Option (Int32 × (Int32) × (Int32) × (Int32) × (Int32) × (Int32) × (Int64) × (Nat → Int64)) := gi (7 : Int32) 499 (ob1 (wh (fun k q => S_X11_takesWord_110 l3_41 ((v_fresh_48 (7 : Int32).toNatClampNeg).toInt32) v_size v_at_42 v_behind_43 v_kind_44 v_wrong_45 v_wrongAt_46 v_number_47 v_fresh_48 v_buffer k q) wF (0 : Int32)) (fun e_64 => F_X11_takesWord_b139 l3_41 ((v_fresh_48 (7 : Int32).toNatClampNeg).toInt32) e_64 v_size v_at_42 v_behind_43 v_kind_44 v_wrong_45 v_wrongAt_46 v_number_47 v_fresh_48 v_buffer))
def S_X11_takesWord_56 (v_size : Int32) (v_at_74 : Int32) (v_behind_75 : Int32) (v_kind_76 : Int32) (v_wrong_77 : Int32) (v_wrongAt_78 : Int32) (v_number_79 : Int64) (v_fresh_80 : Nat → Int64) (v_buffer : Nat → Int32) (k : Int64 × Int32 → Option ((Int64))) (l3_72 : Int64) (l5_73 : Int32) : Option ((Int64)) := if v_wrong_77 = 0 then (if v_behind_75 ≤ l5_73 then (some (l3_72)) else (gi l5_73 900 (k (((((32 : Int64) * l3_72) + ((v_buffer l5_73.toNatClampNeg).toInt64)) - (96 : Int64)), (l5_73 + (1 : Int32)))))) else (some (l3_72))
def F_X11_takesWord_b48 (v_size : Int32) (v_at_65 : Int32) (v_behind_66 : Int32) (v_kind_67 : Int32) (v_wrong_68 : Int32) (v_wrongAt_69 : Int32) (v_number_70 : Int64) (v_fresh_71 : Nat → Int64) (v_buffer : Nat → Int32) : Option (Int32 × (Int32) × (Int32) × (Int32) × (Int32) × (Int32) × (Int64) × (Nat → Int64)) := ob1 (wh (fun k q => S_X11_takesWord_56 v_size v_at_65 v_behind_66 v_kind_67 v_wrong_68 v_wrongAt_69 v_number_70 v_fresh_71 v_buffer k q.1 q.2) wF ((0 : Int64), v_at_65)) (fun e_85 => F_X11_takesWord_b97 e_85 v_size v_at_65 v_behind_66 v_kind_67 v_wrong_68 v_wrongAt_69 v_number_70 v_fresh_71 v_buffer)
def F_X11_takesWord_b34 (x1 : Int64) (v_size : Int32) (v_at_86 : Int32) (v_behind_87 : Int32) (v_kind_88 : Int32) (v_wrong_89 : Int32) (v_wrongAt_90 : Int32) (v_number_91 : Int64) (v_fresh_92 : Nat → Int64) (v_buffer : Nat → Int32) : Option (Int32 × (Int32) × (Int32) × (Int32) × (Int32) × (Int32) × (Int64) × (Nat → Int64)) := if (lg_cmp x1 (8 : Int64)) = 0 then (ob2 (F_X11_fails (-4 : Int32) v_at_86 v_wrong_89 v_wrongAt_90) (fun v_wrong_93 v_wrongAt_94 => F_X11_takesWord_b48 v_size v_at_86 v_behind_87 v_kind_88 v_wrong_93 v_wrongAt_94 v_number_91 v_fresh_92 v_buffer)) else (F_X11_takesWord_b48 v_size v_at_86 v_behind_87 v_kind_88 v_wrong_89 v_wrongAt_90 v_number_91 v_fresh_92 v_buffer)
def F_X11_takesWord_b28 (x1 : Int64) (v_size : Int32) (v_at_96 : Int32) (v_behind_97 : Int32) (v_kind_98 : Int32) (v_wrong_99 : Int32) (v_wrongAt_100 : Int32) (v_number_101 : Int64) (v_fresh_102 : Nat → Int64) (v_buffer : Nat → Int32) : Option (Int32 × (Int32) × (Int32) × (Int32) × (Int32) × (Int32) × (Int64) × (Nat → Int64)) := ob2 (F_X11_fails (-2 : Int32) v_at_96 v_wrong_99 v_wrongAt_100) (fun v_wrong_103 v_wrongAt_104 => F_X11_takesWord_b34 x1 v_size v_at_96 v_behind_97 v_kind_98 v_wrong_103 v_wrongAt_104 v_number_101 v_fresh_102 v_buffer)
def F_X11_takesWord (x1 : Int64) (v_size : Int32) (v_at : Int32) (v_behind : Int32) (v_kind : Int32) (v_wrong : Int32) (v_wrongAt : Int32) (v_number : Int64) (v_fresh : Nat → Int64) (v_buffer : Nat → Int32) : Option (Int32 × (Int32) × (Int32) × (Int32) × (Int32) × (Int32) × (Int64) × (Nat → Int64)) := if v_wrong = 0 then (if v_kind = 0 then (if (v_behind - v_at) ≤ (8 : Int32) then (F_X11_takesWord_b34 x1 v_size v_at v_behind v_kind v_wrong v_wrongAt v_number v_fresh v_buffer) else (F_X11_takesWord_b28 x1 v_size v_at v_behind v_kind v_wrong v_wrongAt v_number v_fresh v_buffer)) else (F_X11_takesWord_b28 x1 v_size v_at v_behind v_kind v_wrong v_wrongAt v_number v_fresh v_buffer)) else (F_X11_takesWord_b34 x1 v_size v_at v_behind v_kind v_wrong v_wrongAt v_number v_fresh v_buffer)
def F_X11_isSign (x1 : Int32) (v_at : Int32) (v_kind : Int32) (v_wrong : Int32) (v_buffer : Nat → Int32) : Option (Int32) := if v_wrong = 0 then (if v_kind = (2 : Int32) then (gi v_at 900 (if (v_buffer v_at.toNatClampNeg) = x1 then (some (1 : Int32)) else (some (0 : Int32)))) else (some (0 : Int32))) else (some (0 : Int32))
def S_X11_readsSegment_93 (l2_10 : Int32) (v_size : Int32) (v_buffer : Nat → Int32) (k : Int32 × (Int32) × (Int32) × (Int32) × (Int32) × (Int32) × (Int64) × (Nat → Int64) → Option (((Int32) × (Int32) × (Int32) × (Int32) × (Int32) × (Int64) × (Nat → Int64)) ⊕ ((Int32) × (Int32) × (Int32) × (Int32) × (Int32) × (Int64) × (Nat → Int64)))) (l3_11 : Int32) (v_at_12 : Int32) (v_behind_13 : Int32) (v_kind_14 : Int32) (v_wrong_15 : Int32) (v_wrongAt_16 : Int32) (v_number_17 : Int64) (v_fresh_18 : Nat → Int64) : Option (((Int32) × (Int32) × (Int32) × (Int32) × (Int32) × (Int64) × (Nat → Int64)) ⊕ ((Int32) × (Int32) × (Int32) × (Int32) × (Int32) × (Int64) × (Nat → Int64))) := if l3_11 = 0 then (some (.inr (v_at_12, v_behind_13, v_kind_14, v_wrong_15, v_wrongAt_16, v_number_17, v_fresh_18))) else (gi (l2_10 + (2 : Int32)) 499 (ob8 (F_X11_takesWord (v_fresh_18 (l2_10 + (2 : Int32)).toNatClampNeg) v_size v_at_12 v_behind_13 v_kind_14 v_wrong_15 v_wrongAt_16 v_number_17 v_fresh_18 v_buffer) (fun r_20 v_at_21 v_behind_22 v_kind_23 v_wrong_24 v_wrongAt_25 v_number_26 v_fresh_27 => if v_wrong_24 = 0 then (gi (l2_10 + (2 : Int32)) 499 (gi ((l2_10 + (3 : Int32)) + ((v_fresh_27 (l2_10 + (2 : Int32)).toNatClampNeg).toInt32)) 499 (gi (l2_10 + (2 : Int32)) 499 (gi (l2_10 + (2 : Int32)) 499 (if v_kind_23 = 0 then (k ((1 : Int32), v_at_21, v_behind_22, v_kind_23, v_wrong_24, v_wrongAt_25, v_number_26, (vp_updL (vp_updL v_fresh_27 ((l2_10 + (3 : Int32)) + ((v_fresh_27 (l2_10 + (2 : Int32)).toNatClampNeg).toInt32)).toNatClampNeg (r_20.toInt64)) (l2_10 + (2 : Int32)).toNatClampNeg (((vp_updL v_fresh_27 ((l2_10 + (3 : Int32)) + ((v_fresh_27 (l2_10 + (2 : Int32)).toNatClampNeg).toInt32)).toNatClampNeg (r_20.toInt64)) (l2_10 + (2 : Int32)).toNatClampNeg) + (1 : Int64))))) else (k ((0 : Int32), v_at_21, v_behind_22, v_kind_23, v_wrong_24, v_wrongAt_25, v_number_26, (vp_updL (vp_updL v_fresh_27 ((l2_10 + (3 : Int32)) + ((v_fresh_27 (l2_10 + (2 : Int32)).toNatClampNeg).toInt32)).toNatClampNeg (r_20.toInt64)) (l2_10 + (2 : Int32)).toNatClampNeg (((vp_updL v_fresh_27 ((l2_10 + (3 : Int32)) + ((v_fresh_27 (l2_10 + (2 : Int32)).toNatClampNeg).toInt32)).toNatClampNeg (r_20.toInt64)) (l2_10 + (2 : Int32)).toNatClampNeg) + (1 : Int64)))))))))) else (some (.inl (v_at_21, v_behind_22, v_kind_23, v_wrong_24, v_wrongAt_25, v_number_26, v_fresh_27))))))
def F_X11_readsSegment_b92 (l2_1 : Int32) (st_2 : Int32) (v_size : Int32) (v_at_3 : Int32) (v_behind_4 : Int32) (v_kind_5 : Int32) (v_wrong_6 : Int32) (v_wrongAt_7 : Int32) (v_number_8 : Int64) (v_fresh_9 : Nat → Int64) (v_buffer : Nat → Int32) : Option ((Int32) × (Int32) × (Int32) × (Int32) × (Int32) × (Int64) × (Nat → Int64)) := ob1 (wh (fun k q => S_X11_readsSegment_93 l2_1 v_size v_buffer k q.1 q.2.1 q.2.2.1 q.2.2.2.1 q.2.2.2.2.1 q.2.2.2.2.2.1 q.2.2.2.2.2.2.1 q.2.2.2.2.2.2.2) wF (st_2, v_at_3, v_behind_4, v_kind_5, v_wrong_6, v_wrongAt_7, v_number_8, v_fresh_9)) (Sum.elim (un7 (fun e_49 e_50 e_51 e_52 e_53 e_54 e_55 => some (e_49, e_50, e_51, e_52, e_53, e_54, e_55))) (un7 (fun e_57 e_58 e_59 e_60 e_61 e_62 e_63 => ob1 (F_X11_isSign (59 : Int32) e_57 e_59 e_60 v_buffer) (fun r_64 => ob6 (F_X11_must r_64 v_size e_57 e_58 e_59 e_60 e_61 e_62 v_buffer) (fun v_at_65 v_behind_66 v_kind_67 v_wrong_68 v_wrongAt_69 v_number_70 => if v_wrong_68 = 0 then (gi (9 : Int32) 499 (gi (l2_1 + (11 : Int32)) 499 (gi (9 : Int32) 499 (gi (9 : Int32) 499 (gi (6 : Int32) 499 (gi (6 : Int32) 499 (some (v_at_65, v_behind_66, v_kind_67, v_wrong_68, v_wrongAt_69, v_number_70, (vp_updL (vp_updL (vp_updL e_63 (l2_1 + (11 : Int32)).toNatClampNeg (e_63 (9 : Int32).toNatClampNeg)) (9 : Int32).toNatClampNeg (((vp_updL e_63 (l2_1 + (11 : Int32)).toNatClampNeg (e_63 (9 : Int32).toNatClampNeg)) (9 : Int32).toNatClampNeg) + (1 : Int64))) (6 : Int32).toNatClampNeg (((vp_updL (vp_updL e_63 (l2_1 + (11 : Int32)).toNatClampNeg (e_63 (9 : Int32).toNatClampNeg)) (9 : Int32).toNatClampNeg (((vp_updL e_63 (l2_1 + (11 : Int32)).toNatClampNeg (e_63 (9 : Int32).toNatClampNeg)) (9 : Int32).toNatClampNeg) + (1 : Int64))) (6 : Int32).toNatClampNeg) + (1 : Int64))))))))))) else (some (v_at_65, v_behind_66, v_kind_67, v_wrong_68, v_wrongAt_69, v_number_70, e_63)))))))
def F_X11_readsSegment_b21 (l1_79 : Int32) (v_size : Int32) (v_at_80 : Int32) (v_behind_81 : Int32) (v_kind_82 : Int32) (v_wrong_83 : Int32) (v_wrongAt_84 : Int32) (v_number_85 : Int64) (v_fresh_86 : Nat → Int64) (v_buffer : Nat → Int32) : Option ((Int32) × (Int32) × (Int32) × (Int32) × (Int32) × (Int64) × (Nat → Int64)) := ob1 (F_X11_isWord 0 v_at_80 v_behind_81 v_kind_82 v_wrong_83 v_buffer) (fun r_87 => ob6 (F_X11_must r_87 v_size v_at_80 v_behind_81 v_kind_82 v_wrong_83 v_wrongAt_84 v_number_85 v_buffer) (fun v_at_88 v_behind_89 v_kind_90 v_wrong_91 v_wrongAt_92 v_number_93 => if v_wrong_91 = 0 then (ob7 (F_X11_takes (1 : Int32) (999 : Int32) v_size v_at_88 v_behind_89 v_kind_90 v_wrong_91 v_wrongAt_92 v_number_93 v_buffer) (fun r_94 v_at_95 v_behind_96 v_kind_97 v_wrong_98 v_wrongAt_99 v_number_100 => gi (((10 : Int32) + ((12 : Int32) * l1_79)) + (0 : Int32)) 499 (ob7 (F_X11_takes (0 : Int32) (99 : Int32) v_size v_at_95 v_behind_96 v_kind_97 v_wrong_98 v_wrongAt_99 v_number_100 v_buffer) (fun r_102 v_at_103 v_behind_104 v_kind_105 v_wrong_106 v_wrongAt_107 v_number_108 => gi (((10 : Int32) + ((12 : Int32) * l1_79)) + (1 : Int32)) 499 (if v_wrong_106 = 0 then (F_X11_readsSegment_b92 ((10 : Int32) + ((12 : Int32) * l1_79)) (1 : Int32) v_size v_at_103 v_behind_104 v_kind_105 v_wrong_106 v_wrongAt_107 v_number_108 (vp_updL (vp_updL v_fresh_86 (((10 : Int32) + ((12 : Int32) * l1_79)) + (0 : Int32)).toNatClampNeg (r_94.toInt64)) (((10 : Int32) + ((12 : Int32) * l1_79)) + (1 : Int32)).toNatClampNeg (r_102.toInt64)) v_buffer) else (F_X11_readsSegment_b92 ((10 : Int32) + ((12 : Int32) * l1_79)) (0 : Int32) v_size v_at_103 v_behind_104 v_kind_105 v_wrong_106 v_wrongAt_107 v_number_108 (vp_updL (vp_updL v_fresh_86 (((10 : Int32) + ((12 : Int32) * l1_79)) + (0 : Int32)).toNatClampNeg (r_94.toInt64)) (((10 : Int32) + ((12 : Int32) * l1_79)) + (1 : Int32)).toNatClampNeg (r_102.toInt64)) v_buffer)))))) else (some (v_at_88, v_behind_89, v_kind_90, v_wrong_91, v_wrongAt_92, v_number_93, v_fresh_86))))
def F_X11_readsSegment (v_size : Int32) (v_at : Int32) (v_behind : Int32) (v_kind : Int32) (v_wrong : Int32) (v_wrongAt : Int32) (v_number : Int64) (v_fresh : Nat → Int64) (v_buffer : Nat → Int32) : Option ((Int32) × (Int32) × (Int32) × (Int32) × (Int32) × (Int64) × (Nat → Int64)) := gi (6 : Int32) 499 (if ((v_fresh (6 : Int32).toNatClampNeg).toInt32) = (32 : Int32) then (ob2 (F_X11_fails (-4 : Int32) v_at v_wrong v_wrongAt) (fun v_wrong_113 v_wrongAt_114 => F_X11_readsSegment_b21 ((v_fresh (6 : Int32).toNatClampNeg).toInt32) v_size v_at v_behind v_kind v_wrong_113 v_wrongAt_114 v_number v_fresh v_buffer)) else (F_X11_readsSegment_b21 ((v_fresh (6 : Int32).toNatClampNeg).toInt32) v_size v_at v_behind v_kind v_wrong v_wrongAt v_number v_fresh v_buffer))
def S_X11_putsSlot_51 (n0 : Nat) (x1 : Int32) (x2 : Int32) (x3 : Int32) (l4_4 : Int32) (k : Int32 × (Nat → Int64) → Option (((Nat → Int64)))) (l5_5 : Int32) (v_p0_6 : Nat → Int64) : Option (((Nat → Int64))) := if l5_5 < ((394 : Int32) + ((3 : Int32) * l4_4)) then (some (v_p0_6)) else (gi l5_5 n0 (gi (l5_5 + (3 : Int32)) n0 (k ((l5_5 + (-1 : Int32)), (vp_updL v_p0_6 (l5_5 + (3 : Int32)).toNatClampNeg (v_p0_6 l5_5.toNatClampNeg))))))
def F_X11_putsSlot_b36 (n0 : Nat) (x1 : Int32) (x2 : Int32) (x3 : Int32) (l4_1 : Int32) (v_p0_2 : Nat → Int64) : Option (Int32 × (Nat → Int64)) := gi (8 : Int32) n0 (ob1 (wh (fun k q => S_X11_putsSlot_51 n0 x1 x2 x3 l4_1 k q.1 q.2) wF ((((394 : Int32) + ((3 : Int32) * ((v_p0_2 (8 : Int32).toNatClampNeg).toInt32))) - (1 : Int32)), v_p0_2)) (fun e_11 => gi ((394 : Int32) + ((3 : Int32) * l4_1)) n0 (gi (((394 : Int32) + ((3 : Int32) * l4_1)) + (1 : Int32)) n0 (gi (((394 : Int32) + ((3 : Int32) * l4_1)) + (2 : Int32)) n0 (gi (8 : Int32) n0 (gi (8 : Int32) n0 (some (l4_1, (vp_updL (vp_updL (vp_updL (vp_updL e_11 ((394 : Int32) + ((3 : Int32) * l4_1)).toNatClampNeg (x1.toInt64)) (((394 : Int32) + ((3 : Int32) * l4_1)) + (1 : Int32)).toNatClampNeg (x2.toInt64)) (((394 : Int32) + ((3 : Int32) * l4_1)) + (2 : Int32)).toNatClampNeg (x3.toInt64)) (8 : Int32).toNatClampNeg (((vp_updL (vp_updL (vp_updL e_11 ((394 : Int32) + ((3 : Int32) * l4_1)).toNatClampNeg (x1.toInt64)) (((394 : Int32) + ((3 : Int32) * l4_1)) + (1 : Int32)).toNatClampNeg (x2.toInt64)) (((394 : Int32) + ((3 : Int32) * l4_1)) + (2 : Int32)).toNatClampNeg (x3.toInt64)) (8 : Int32).toNatClampNeg) + (1 : Int64)))))))))))
def S_X11_putsSlot_3 (n0 : Nat) (x1 : Int32) (x2 : Int32) (x3 : Int32) (v_p0_18 : Nat → Int64) (k : Int32 → Option ((Int32))) (l4_17 : Int32) : Option ((Int32)) := gi (8 : Int32) n0 (if 0 ≤ (lg_cmp (l4_17.toInt64) (v_p0_18 (8 : Int32).toNatClampNeg)) then (some (l4_17)) else (gi ((394 : Int32) + ((3 : Int32) * l4_17)) n0 (if 0 < (lg_cmp (v_p0_18 ((394 : Int32) + ((3 : Int32) * l4_17)).toNatClampNeg) (x1.toInt64)) then (some (l4_17)) else (k (l4_17 + (1 : Int32))))))
def F_X11_putsSlot (n0 : Nat) (x1 : Int32) (x2 : Int32) (x3 : Int32) (v_p0 : Nat → Int64) : Option (Int32 × (Nat → Int64)) := ob1 (wh (fun k q => S_X11_putsSlot_3 n0 x1 x2 x3 v_p0 k q) wF (0 : Int32)) (fun e_24 => F_X11_putsSlot_b36 n0 x1 x2 x3 e_24 v_p0)
def F_X11_readsSlot_b20 (v_size : Int32) (v_at_1 : Int32) (v_behind_2 : Int32) (v_kind_3 : Int32) (v_wrong_4 : Int32) (v_wrongAt_5 : Int32) (v_number_6 : Int64) (v_fresh_7 : Nat → Int64) (v_buffer : Nat → Int32) : Option ((Int32) × (Int32) × (Int32) × (Int32) × (Int32) × (Int64) × (Nat → Int64)) := ob1 (F_X11_isWord 1 v_at_1 v_behind_2 v_kind_3 v_wrong_4 v_buffer) (fun r_8 => ob6 (F_X11_must r_8 v_size v_at_1 v_behind_2 v_kind_3 v_wrong_4 v_wrongAt_5 v_number_6 v_buffer) (fun v_at_9 v_behind_10 v_kind_11 v_wrong_12 v_wrongAt_13 v_number_14 => ob7 (F_X11_takes (0 : Int32) (9999 : Int32) v_size v_at_9 v_behind_10 v_kind_11 v_wrong_12 v_wrongAt_13 v_number_14 v_buffer) (fun r_15 v_at_16 v_behind_17 v_kind_18 v_wrong_19 v_wrongAt_20 v_number_21 => ob7 (F_X11_takes (1 : Int32) (300 : Int32) v_size v_at_16 v_behind_17 v_kind_18 v_wrong_19 v_wrongAt_20 v_number_21 v_buffer) (fun r_22 v_at_23 v_behind_24 v_kind_25 v_wrong_26 v_wrongAt_27 v_number_28 => ob7 (F_X11_takes (0 : Int32) (999 : Int32) v_size v_at_23 v_behind_24 v_kind_25 v_wrong_26 v_wrongAt_27 v_number_28 v_buffer) (fun r_29 v_at_30 v_behind_31 v_kind_32 v_wrong_33 v_wrongAt_34 v_number_35 => ob1 (F_X11_isSign (59 : Int32) v_at_30 v_kind_32 v_wrong_33 v_buffer) (fun r_36 => ob6 (F_X11_must r_36 v_size v_at_30 v_behind_31 v_kind_32 v_wrong_33 v_wrongAt_34 v_number_35 v_buffer) (fun v_at_37 v_behind_38 v_kind_39 v_wrong_40 v_wrongAt_41 v_number_42 => if v_wrong_40 = 0 then (ob2 (F_X11_putsSlot 499 r_15 r_22 r_29 v_fresh_7) (fun r_43 v_fresh_44 => some (v_at_37, v_behind_38, v_kind_39, v_wrong_40, v_wrongAt_41, v_number_42, v_fresh_44))) else (some (v_at_37, v_behind_38, v_kind_39, v_wrong_40, v_wrongAt_41, v_number_42, v_fresh_7)))))))))
def F_X11_readsSlot (v_size : Int32) (v_at : Int32) (v_behind : Int32) (v_kind : Int32) (v_wrong : Int32) (v_wrongAt : Int32) (v_number : Int64) (v_fresh : Nat → Int64) (v_buffer : Nat → Int32) : Option ((Int32) × (Int32) × (Int32) × (Int32) × (Int32) × (Int64) × (Nat → Int64)) := gi (8 : Int32) 499 (if (lg_cmp (v_fresh (8 : Int32).toNatClampNeg) (5 : Int64)) = 0 then (ob2 (F_X11_fails (-4 : Int32) v_at v_wrong v_wrongAt) (fun v_wrong_47 v_wrongAt_48 => F_X11_readsSlot_b20 v_size v_at v_behind v_kind v_wrong_47 v_wrongAt_48 v_number v_fresh v_buffer)) else (F_X11_readsSlot_b20 v_size v_at v_behind v_kind v_wrong v_wrongAt v_number v_fresh v_buffer))
def F_X11_low (x0 : Int32) : Option (Int32) := if (3 : Int32) ≤ x0 then (some (0 : Int32)) else (some (1 : Int32))
def F_X11_high (x0 : Int32) : Option (Int32) := if x0 = 2 then (some (5 : Int32)) else (if x0 = 3 then (some (100 : Int32)) else (if x0 = 4 then (some (99 : Int32)) else (some (9999 : Int32))))
def F_X11_readsSetting (v_size : Int32) (v_at : Int32) (v_behind : Int32) (v_kind : Int32) (v_wrong : Int32) (v_wrongAt : Int32) (v_number : Int64) (v_fresh : Nat → Int64) (v_buffer : Nat → Int32) : Option ((Int32) × (Int32) × (Int32) × (Int32) × (Int32) × (Int64) × (Nat → Int64)) := ob1 (F_X11_isWord 2 v_at v_behind v_kind v_wrong v_buffer) (fun r_1 => ob6 (F_X11_must r_1 v_size v_at v_behind v_kind v_wrong v_wrongAt v_number v_buffer) (fun v_at_2 v_behind_3 v_kind_4 v_wrong_5 v_wrongAt_6 v_number_7 => ob7 (F_X11_takes (0 : Int32) (5 : Int32) v_size v_at_2 v_behind_3 v_kind_4 v_wrong_5 v_wrongAt_6 v_number_7 v_buffer) (fun r_8 v_at_9 v_behind_10 v_kind_11 v_wrong_12 v_wrongAt_13 v_number_14 => ob1 (F_X11_low r_8) (fun r_15 => ob1 (F_X11_high r_8) (fun r_16 => ob7 (F_X11_takes r_15 r_16 v_size v_at_9 v_behind_10 v_kind_11 v_wrong_12 v_wrongAt_13 v_number_14 v_buffer) (fun r_17 v_at_18 v_behind_19 v_kind_20 v_wrong_21 v_wrongAt_22 v_number_23 => ob1 (F_X11_isSign (59 : Int32) v_at_18 v_kind_20 v_wrong_21 v_buffer) (fun r_24 => ob6 (F_X11_must r_24 v_size v_at_18 v_behind_19 v_kind_20 v_wrong_21 v_wrongAt_22 v_number_23 v_buffer) (fun v_at_25 v_behind_26 v_kind_27 v_wrong_28 v_wrongAt_29 v_number_30 => if v_wrong_28 = 0 then (gi r_8 499 (some (v_at_25, v_behind_26, v_kind_27, v_wrong_28, v_wrongAt_29, v_number_30, (vp_updL v_fresh r_8.toNatClampNeg (r_17.toInt64))))) else (some (v_at_25, v_behind_26, v_kind_27, v_wrong_28, v_wrongAt_29, v_number_30, v_fresh))))))))))
def S_X11_keeps_52 (v_keptMany_4 : Int32) (v_a : Nat → Int64) (k : Int32 × (Nat → Int64) → Option (((Nat → Int64)))) (l1_3 : Int32) (v_kept_5 : Nat → Int64) : Option (((Nat → Int64))) := if (499 : Int32) ≤ l1_3 then (some (v_kept_5)) else (gi l1_3 499 (gi (((499 : Int32) * v_keptMany_4) + l1_3) 3992 (k ((l1_3 + (1 : Int32)), (vp_updL v_kept_5 (((499 : Int32) * v_keptMany_4) + l1_3).toNatClampNeg (v_a l1_3.toNatClampNeg))))))
def F_X11_keeps_b50 (v_keptMany_1 : Int32) (v_a : Nat → Int64) (v_kept_2 : Nat → Int64) : Option ((Int32) × (Nat → Int64)) := ob1 (wh (fun k q => S_X11_keeps_52 v_keptMany_1 v_a k q.1 q.2) wF ((0 : Int32), v_kept_2)) (fun e_10 => some ((v_keptMany_1 + (1 : Int32)), e_10))
def S_X11_keeps_11 (v_keptMany_12 : Int32) (v_a : Nat → Int64) (k : Int32 × (Nat → Int64) → Option (((Nat → Int64)))) (l1_11 : Int32) (v_kept_13 : Nat → Int64) : Option (((Nat → Int64))) := if (3493 : Int32) ≤ l1_11 then (some (v_kept_13)) else (gi (l1_11 + (499 : Int32)) 3992 (gi l1_11 3992 (k ((l1_11 + (1 : Int32)), (vp_updL v_kept_13 l1_11.toNatClampNeg (v_kept_13 (l1_11 + (499 : Int32)).toNatClampNeg))))))
def F_X11_keeps (v_keptMany : Int32) (v_a : Nat → Int64) (v_kept : Nat → Int64) : Option ((Int32) × (Nat → Int64)) := if v_keptMany = (8 : Int32) then (ob1 (wh (fun k q => S_X11_keeps_11 v_keptMany v_a k q.1 q.2) wF ((0 : Int32), v_kept)) (fun e_18 => F_X11_keeps_b50 (v_keptMany - (1 : Int32)) v_a e_18)) else (F_X11_keeps_b50 v_keptMany v_a v_kept)
def S_X11_becomes_2 (v_fresh : Nat → Int64) (k : Int32 × (Nat → Int64) → Option (((Nat → Int64)))) (l1_1 : Int32) (v_a_2 : Nat → Int64) : Option (((Nat → Int64))) := if (499 : Int32) ≤ l1_1 then (some (v_a_2)) else (gi l1_1 499 (gi l1_1 499 (k ((l1_1 + (1 : Int32)), (vp_updL v_a_2 l1_1.toNatClampNeg (v_fresh l1_1.toNatClampNeg))))))
def F_X11_becomes (v_a : Nat → Int64) (v_fresh : Nat → Int64) : Option ((Nat → Int64)) := ob1 (wh (fun k q => S_X11_becomes_2 v_fresh k q.1 q.2) wF ((0 : Int32), v_a)) (fun e_7 => some e_7)
def F_X11_load_b148 (st_1 : Int32) (v_keptMany_2 : Int32) (v_thrown_3 : Int32) (v_buffered_4 : Int32) (v_size_5 : Int32) (v_at_6 : Int32) (v_behind_7 : Int32) (v_kind_8 : Int32) (v_wrong_9 : Int32) (v_wrongAt_10 : Int32) (v_errorAt_11 : Int32) (v_number_12 : Int64) (v_a_13 : Nat → Int64) (v_fresh_14 : Nat → Int64) (v_kept_15 : Nat → Int64) : Option (Int32 × (Int32) × (Int32) × (Int32) × (Int32) × (Int32) × (Int32) × (Int32) × (Int32) × (Int32) × (Int32) × (Int64) × (Nat → Int64) × (Nat → Int64) × (Nat → Int64)) := if v_wrong_9 = 0 then (ob2 (F_X11_keeps v_keptMany_2 v_a_13 v_kept_15) (fun v_keptMany_16 v_kept_17 => ob1 (F_X11_becomes v_a_13 v_fresh_14) (fun v_a_18 => gi (6 : Int32) 499 (some (((v_a_18 (6 : Int32).toNatClampNeg).toInt32), v_keptMany_16, v_thrown_3, v_buffered_4, v_size_5, v_at_6, v_behind_7, v_kind_8, v_wrong_9, v_wrongAt_10, st_1, v_number_12, v_a_18, v_fresh_14, v_kept_17))))) else (some (v_wrong_9, v_keptMany_2, v_thrown_3, v_buffered_4, v_size_5, v_at_6, v_behind_7, v_kind_8, v_wrong_9, v_wrongAt_10, st_1, v_number_12, v_a_13, v_fresh_14, v_kept_15))
def F_X11_load_b132 (v_keptMany_21 : Int32) (v_thrown_22 : Int32) (v_buffered_23 : Int32) (v_size_24 : Int32) (v_at_25 : Int32) (v_behind_26 : Int32) (v_kind_27 : Int32) (v_wrong_28 : Int32) (v_wrongAt_29 : Int32) (v_errorAt_30 : Int32) (v_number_31 : Int64) (v_a_32 : Nat → Int64) (v_fresh_33 : Nat → Int64) (v_kept_34 : Nat → Int64) : Option (Int32 × (Int32) × (Int32) × (Int32) × (Int32) × (Int32) × (Int32) × (Int32) × (Int32) × (Int32) × (Int32) × (Int64) × (Nat → Int64) × (Nat → Int64) × (Nat → Int64)) := if v_wrong_28 = 0 then (F_X11_load_b148 (-1 : Int32) v_keptMany_21 v_thrown_22 v_buffered_23 v_size_24 v_at_25 v_behind_26 v_kind_27 v_wrong_28 v_wrongAt_29 v_errorAt_30 v_number_31 v_a_32 v_fresh_33 v_kept_34) else (F_X11_load_b148 v_wrongAt_29 v_keptMany_21 v_thrown_22 v_buffered_23 v_size_24 v_at_25 v_behind_26 v_kind_27 v_wrong_28 v_wrongAt_29 v_errorAt_30 v_number_31 v_a_32 v_fresh_33 v_kept_34)
def S_X11_load_60 (v_keptMany_56 : Int32) (v_thrown_57 : Int32) (v_buffered_58 : Int32) (v_size_59 : Int32) (v_errorAt_65 : Int32) (v_a_67 : Nat → Int64) (v_kept_69 : Nat → Int64) (v_buffer : Nat → Int32) (k : (Int32) × (Int32) × (Int32) × (Int32) × (Int32) × (Int64) × (Nat → Int64) → Option (((Int32) × (Int32) × (Int32) × (Int32) × (Int32) × (Int64) × (Nat → Int64)))) (v_at_60 : Int32) (v_behind_61 : Int32) (v_kind_62 : Int32) (v_wrong_63 : Int32) (v_wrongAt_64 : Int32) (v_number_66 : Int64) (v_fresh_68 : Nat → Int64) : Option (((Int32) × (Int32) × (Int32) × (Int32) × (Int32) × (Int64) × (Nat → Int64))) := if v_wrong_63 = 0 then (if v_kind_62 = (3 : Int32) then (some (v_at_60, v_behind_61, v_kind_62, v_wrong_63, v_wrongAt_64, v_number_66, v_fresh_68)) else (ob1 (F_X11_isWord 0 v_at_60 v_behind_61 v_kind_62 v_wrong_63 v_buffer) (fun r_70 => if r_70 = 0 then (ob1 (F_X11_isWord 1 v_at_60 v_behind_61 v_kind_62 v_wrong_63 v_buffer) (fun r_71 => if r_71 = 0 then (ob1 (F_X11_isWord 2 v_at_60 v_behind_61 v_kind_62 v_wrong_63 v_buffer) (fun r_72 => if r_72 = 0 then (ob2 (F_X11_fails (-2 : Int32) v_at_60 v_wrong_63 v_wrongAt_64) (fun v_wrong_73 v_wrongAt_74 => k (v_at_60, v_behind_61, v_kind_62, v_wrong_73, v_wrongAt_74, v_number_66, v_fresh_68))) else (ob7 (F_X11_readsSetting v_size_59 v_at_60 v_behind_61 v_kind_62 v_wrong_63 v_wrongAt_64 v_number_66 v_fresh_68 v_buffer) (fun v_at_75 v_behind_76 v_kind_77 v_wrong_78 v_wrongAt_79 v_number_80 v_fresh_81 => k (v_at_75, v_behind_76, v_kind_77, v_wrong_78, v_wrongAt_79, v_number_80, v_fresh_81))))) else (ob7 (F_X11_readsSlot v_size_59 v_at_60 v_behind_61 v_kind_62 v_wrong_63 v_wrongAt_64 v_number_66 v_fresh_68 v_buffer) (fun v_at_83 v_behind_84 v_kind_85 v_wrong_86 v_wrongAt_87 v_number_88 v_fresh_89 => k (v_at_83, v_behind_84, v_kind_85, v_wrong_86, v_wrongAt_87, v_number_88, v_fresh_89))))) else (ob7 (F_X11_readsSegment v_size_59 v_at_60 v_behind_61 v_kind_62 v_wrong_63 v_wrongAt_64 v_number_66 v_fresh_68 v_buffer) (fun v_at_91 v_behind_92 v_kind_93 v_wrong_94 v_wrongAt_95 v_number_96 v_fresh_97 => k (v_at_91, v_behind_92, v_kind_93, v_wrong_94, v_wrongAt_95, v_number_96, v_fresh_97)))))) else (some (v_at_60, v_behind_61, v_kind_62, v_wrong_63, v_wrongAt_64, v_number_66, v_fresh_68))
def F_X11_load_b20 (x1 : Int32) (st_36 : Int32) (v_keptMany_37 : Int32) (v_thrown_38 : Int32) (v_buffered_39 : Int32) (v_size_40 : Int32) (v_at_41 : Int32) (v_behind_42 : Int32) (v_kind_43 : Int32) (v_wrong_44 : Int32) (v_wrongAt_45 : Int32) (v_errorAt_46 : Int32) (v_number_47 : Int64) (v_a_48 : Nat → Int64) (v_fresh_49 : Nat → Int64) (v_kept_50 : Nat → Int64) (v_buffer : Nat → Int32) : Option (Int32 × (Int32) × (Int32) × (Int32) × (Int32) × (Int32) × (Int32) × (Int32) × (Int32) × (Int32) × (Int32) × (Int64) × (Nat → Int64) × (Nat → Int64) × (Nat → Int64)) := if st_36 ≤ 0 then (ob1 (F_X11_begins v_fresh_49) (fun v_fresh_51 => ob4 (F_X11_next x1 v_at_41 (0 : Int32) v_kind_43 v_number_47 v_buffer) (fun v_at_52 v_behind_53 v_kind_54 v_number_55 => ob7 (wh (fun k q => S_X11_load_60 v_keptMany_37 st_36 (0 : Int32) x1 v_errorAt_46 v_a_48 v_kept_50 v_buffer k q.1 q.2.1 q.2.2.1 q.2.2.2.1 q.2.2.2.2.1 q.2.2.2.2.2.1 q.2.2.2.2.2.2) wF (v_at_52, v_behind_53, v_kind_54, (0 : Int32), v_wrongAt_45, v_number_55, v_fresh_51)) (fun e_108 e_109 e_110 e_111 e_112 e_113 e_114 => F_X11_load_b132 v_keptMany_37 st_36 (0 : Int32) x1 e_108 e_109 e_110 e_111 e_112 v_errorAt_46 e_113 v_a_48 e_114 v_kept_50)))) else (some ((0 : Int32), v_keptMany_37, st_36, v_buffered_39, v_size_40, v_at_41, v_behind_42, v_kind_43, v_wrong_44, v_wrongAt_45, v_errorAt_46, v_number_47, v_a_48, v_fresh_49, v_kept_50))
def F_X11_load (x1 : Int32) (v_keptMany : Int32) (v_thrown : Int32) (v_buffered : Int32) (v_size : Int32) (v_at : Int32) (v_behind : Int32) (v_kind : Int32) (v_wrong : Int32) (v_wrongAt : Int32) (v_errorAt : Int32) (v_number : Int64) (v_a : Nat → Int64) (v_fresh : Nat → Int64) (v_kept : Nat → Int64) (v_buffer : Nat → Int32) : Option (Int32 × (Int32) × (Int32) × (Int32) × (Int32) × (Int32) × (Int32) × (Int32) × (Int32) × (Int32) × (Int32) × (Int64) × (Nat → Int64) × (Nat → Int64) × (Nat → Int64)) := ob1 (F_X11_isIn (x1.toInt64) (0 : Int64) (v_buffered.toInt64)) (fun r_116 => if r_116 = 0 then (F_X11_load_b20 x1 (1 : Int32) v_keptMany v_thrown v_buffered v_size v_at v_behind v_kind v_wrong v_wrongAt v_errorAt v_number v_a v_fresh v_kept v_buffer) else (F_X11_load_b20 x1 (0 : Int32) v_keptMany v_thrown v_buffered v_size v_at v_behind v_kind v_wrong v_wrongAt v_errorAt v_number v_a v_fresh v_kept v_buffer))
def F_X11_errorPosition (v_thrown : Int32) (v_errorAt : Int32) : Option (Int32 × (Int32)) := some (v_errorAt, (0 : Int32))
def F_X11_many (v_a : Nat → Int64) : Option (Int32) := gi (6 : Int32) 499 (some ((v_a (6 : Int32).toNatClampNeg).toInt32))
def F_X11_of (x1 : Int32) (x2 : Int32) (v_a : Nat → Int64) : Option (Int32) := gi (((10 : Int32) + ((12 : Int32) * x1)) + x2) 499 (some ((v_a (((10 : Int32) + ((12 : Int32) * x1)) + x2).toNatClampNeg).toInt32))
def S_X11_spoken_4 (x1 : Int32) (v_a : Nat → Int64) (k : Int32 × Int32 → Option ((Int32))) (l2_1 : Int32) (l3_2 : Int32) : Option ((Int32)) := if x1 ≤ l3_2 then (some (l2_1)) else (ob1 (F_X11_of l3_2 (0 : Int32) v_a) (fun r_3 => k ((l2_1 + r_3), (l3_2 + (1 : Int32)))))
def F_X11_spoken (x1 : Int32) (v_a : Nat → Int64) : Option (Int32) := ob1 (wh (fun k q => S_X11_spoken_4 x1 v_a k q.1 q.2) wF ((0 : Int32), (0 : Int32))) (fun e_6 => some e_6)
def S_X11_wordsOfAll_4 (v_a : Nat → Int64) (k : Int32 × Int32 → Option ((Int32))) (l1_1 : Int32) (l2_2 : Int32) : Option ((Int32)) := ob1 (F_X11_many v_a) (fun r_3 => if r_3 ≤ l2_2 then (some (l1_1)) else (ob1 (F_X11_of l2_2 (2 : Int32) v_a) (fun r_4 => k ((l1_1 + r_4), (l2_2 + (1 : Int32))))))
def F_X11_wordsOfAll (v_a : Nat → Int64) : Option (Int32) := ob1 (wh (fun k q => S_X11_wordsOfAll_4 v_a k q.1 q.2) wF ((0 : Int32), (0 : Int32))) (fun e_7 => some e_7)
def F_X11_isLong (x1 : Int32) (v_a : Nat → Int64) : Option (Int32) := ob1 (F_X11_of x1 (1 : Int32) v_a) (fun r_1 => gi (4 : Int32) 499 (if (lg_cmp (r_1.toInt64) (v_a (4 : Int32).toNatClampNeg)) < 0 then (some (0 : Int32)) else (some (1 : Int32))))
def S_X11_longPauses_4 (v_a : Nat → Int64) (k : Int32 × Int32 → Option ((Int32))) (l1_1 : Int32) (l2_2 : Int32) : Option ((Int32)) := ob1 (F_X11_many v_a) (fun r_3 => if (r_3 - (1 : Int32)) ≤ l2_2 then (some (l1_1)) else (ob1 (F_X11_isLong l2_2 v_a) (fun r_4 => if r_4 = 0 then (k ((l1_1 + (0 : Int32)), (l2_2 + (1 : Int32)))) else (k ((l1_1 + (1 : Int32)), (l2_2 + (1 : Int32)))))))
def F_X11_longPauses (v_a : Nat → Int64) : Option (Int32) := ob1 (wh (fun k q => S_X11_longPauses_4 v_a k q.1 q.2) wF ((0 : Int32), (0 : Int32))) (fun e_8 => some e_8)
def F_X11_count_b18 (x1 : Int32) (st_1 : Int32) (v_thrown_2 : Int32) (v_a : Nat → Int64) : Option (Int32 × (Int32)) := if st_1 ≤ 0 then (if x1 = 3 then (ob1 (F_X11_many v_a) (fun r_9 => ob1 (F_X11_spoken r_9 v_a) (fun r_10 => some (r_10, st_1)))) else (if x1 = 4 then (ob1 (F_X11_wordsOfAll v_a) (fun r_8 => some (r_8, st_1))) else (if x1 = 5 then (ob1 (F_X11_longPauses v_a) (fun r_7 => some (r_7, st_1))) else (gi ((6 : Int32) + x1) 499 (some (((v_a ((6 : Int32) + x1).toNatClampNeg).toInt32), st_1)))))) else (some ((0 : Int32), st_1))
def F_X11_count (x1 : Int32) (v_thrown : Int32) (v_a : Nat → Int64) : Option (Int32 × (Int32)) := ob1 (F_X11_isIn (x1.toInt64) (0 : Int64) (5 : Int64)) (fun r_12 => if r_12 = 0 then (F_X11_count_b18 x1 (1 : Int32) v_thrown v_a) else (F_X11_count_b18 x1 (0 : Int32) v_thrown v_a))
def F_X11_setting_b18 (x1 : Int32) (st_1 : Int32) (v_thrown_2 : Int32) (v_a : Nat → Int64) : Option (Int32 × (Int32)) := if st_1 ≤ 0 then (gi x1 499 (some (((v_a x1.toNatClampNeg).toInt32), st_1))) else (some ((0 : Int32), st_1))
def F_X11_setting (x1 : Int32) (v_thrown : Int32) (v_a : Nat → Int64) : Option (Int32 × (Int32)) := ob1 (F_X11_isIn (x1.toInt64) (0 : Int64) (5 : Int64)) (fun r_5 => if r_5 = 0 then (F_X11_setting_b18 x1 (1 : Int32) v_thrown v_a) else (F_X11_setting_b18 x1 (0 : Int32) v_thrown v_a))
def F_X11_set_b40 (x1 : Int32) (x2 : Int32) (st_1 : Int32) (v_keptMany_2 : Int32) (v_thrown_3 : Int32) (v_a_4 : Nat → Int64) (v_kept_5 : Nat → Int64) : Option (Int32 × (Int32) × (Int32) × (Nat → Int64) × (Nat → Int64)) := if st_1 ≤ 0 then (ob2 (F_X11_keeps v_keptMany_2 v_a_4 v_kept_5) (fun v_keptMany_6 v_kept_7 => gi x1 499 (gi x1 499 (some (((v_a_4 x1.toNatClampNeg).toInt32), v_keptMany_6, st_1, (vp_updL v_a_4 x1.toNatClampNeg (x2.toInt64)), v_kept_7))))) else (some ((0 : Int32), v_keptMany_2, st_1, v_a_4, v_kept_5))
def F_X11_set (x1 : Int32) (x2 : Int32) (v_keptMany : Int32) (v_thrown : Int32) (v_a : Nat → Int64) (v_kept : Nat → Int64) : Option (Int32 × (Int32) × (Int32) × (Nat → Int64) × (Nat → Int64)) := ob1 (F_X11_isIn (x1.toInt64) (0 : Int64) (5 : Int64)) (fun r_11 => if r_11 = 0 then (F_X11_set_b40 x1 x2 (1 : Int32) v_keptMany v_thrown v_a v_kept) else (ob1 (F_X11_low x1) (fun r_12 => ob1 (F_X11_high x1) (fun r_13 => ob1 (F_X11_isIn (x2.toInt64) (r_12.toInt64) (r_13.toInt64)) (fun r_14 => if r_14 = 0 then (F_X11_set_b40 x1 x2 (2 : Int32) v_keptMany v_thrown v_a v_kept) else (F_X11_set_b40 x1 x2 (0 : Int32) v_keptMany v_thrown v_a v_kept))))))
def F_X11_isSegment (x1 : Int32) (v_a : Nat → Int64) : Option (Int32) := ob1 (F_X11_many v_a) (fun r_1 => ob1 (F_X11_isIn (x1.toInt64) (0 : Int64) ((r_1 - (1 : Int32)).toInt64)) (fun r_2 => gb r_2 (some r_2)))
def S_X11_usesIn_15 (x1 : Int32) (x3 : Int32) (l5_4 : Int32) (v_a : Nat → Int64) (k : Int32 × Int32 → Option ((Int32))) (l4_3 : Int32) (l6_5 : Int32) : Option ((Int32)) := ob1 (F_X11_of l5_4 (2 : Int32) v_a) (fun r_6 => if r_6 ≤ l6_5 then (some (l4_3)) else (ob1 (F_X11_of l5_4 ((3 : Int32) + l6_5) v_a) (fun r_7 => if r_7 = x1 then (k ((l4_3 + (1 : Int32)), (l6_5 + (1 : Int32)))) else (k ((l4_3 + (0 : Int32)), (l6_5 + (1 : Int32)))))))
def S_X11_usesIn_6 (x1 : Int32) (x3 : Int32) (v_a : Nat → Int64) (k : Int32 × Int32 → Option ((Int32))) (l4_1 : Int32) (l5_2 : Int32) : Option ((Int32)) := if x3 < l5_2 then (some (l4_1)) else (ob1 (wh (fun k q => S_X11_usesIn_15 x1 x3 l5_2 v_a k q.1 q.2) wF (l4_1, (0 : Int32))) (fun e_11 => k (e_11, (l5_2 + (1 : Int32)))))
def F_X11_usesIn (x1 : Int32) (x2 : Int32) (x3 : Int32) (v_a : Nat → Int64) : Option (Int32) := ob1 (wh (fun k q => S_X11_usesIn_6 x1 x3 v_a k q.1 q.2) wF ((0 : Int32), x2)) (fun e_14 => some e_14)
def F_X11_likenessOf_b60 (k : Int32 × Int32 × Int32 → Option ((Int32 × Int32))) (x1 : Int32) (x2 : Int32) (x3 : Int32) (x4 : Int32) (l6_4 : Int32) (l7_5 : Int32) (l8_6 : Int32) (l9_7 : Int32) (st_8 : Int32) (st_9 : Int32) (v_a : Nat → Int64) : Option ((Int32 × Int32)) := if l9_7 ≤ l8_6 then (k ((st_9 + st_8), (l6_4 + l8_6), (l7_5 + (1 : Int32)))) else (k ((st_9 + st_8), (l6_4 + l9_7), (l7_5 + (1 : Int32))))
def S_X11_likenessOf_9 (x1 : Int32) (x2 : Int32) (x3 : Int32) (x4 : Int32) (v_a : Nat → Int64) (k : Int32 × Int32 × Int32 → Option ((Int32 × Int32))) (l5_1 : Int32) (l6_2 : Int32) (l7_3 : Int32) : Option ((Int32 × Int32)) := gi (7 : Int32) 499 (if 0 ≤ (lg_cmp (l7_3.toInt64) (v_a (7 : Int32).toNatClampNeg)) then (some (l5_1, l6_2)) else (ob1 (F_X11_usesIn l7_3 x1 x2 v_a) (fun r_12 => ob1 (F_X11_usesIn l7_3 x3 x4 v_a) (fun r_13 => if r_13 ≤ r_12 then (F_X11_likenessOf_b60 k x1 x2 x3 x4 l6_2 l7_3 r_12 r_13 r_13 l5_1 v_a) else (F_X11_likenessOf_b60 k x1 x2 x3 x4 l6_2 l7_3 r_12 r_13 r_12 l5_1 v_a)))))
def F_X11_likenessOf (x1 : Int32) (x2 : Int32) (x3 : Int32) (x4 : Int32) (v_a : Nat → Int64) : Option (Int32) := ob2 (wh (fun k q => S_X11_likenessOf_9 x1 x2 x3 x4 v_a k q.1 q.2.1 q.2.2) wF ((0 : Int32), (0 : Int32), (0 : Int32))) (fun e_18 e_19 => gzi e_19 (some (((100 : Int32) * e_18) / e_19)))
def F_X11_changeOf_b50 (x1 : Int32) (l3_1 : Int32) (st_2 : Int32) (v_a : Nat → Int64) : Option (Int32) := ob1 (F_X11_likenessOf l3_1 x1 (x1 + (1 : Int32)) st_2 v_a) (fun r_3 => some ((100 : Int32) - r_3))
def F_X11_changeOf_b25 (x1 : Int32) (l2_4 : Int32) (st_5 : Int32) (v_a : Nat → Int64) : Option (Int32) := ob1 (F_X11_many v_a) (fun r_6 => if (r_6 - (1 : Int32)) ≤ (x1 + l2_4) then (ob1 (F_X11_many v_a) (fun r_7 => F_X11_changeOf_b50 x1 st_5 (r_7 - (1 : Int32)) v_a)) else (F_X11_changeOf_b50 x1 st_5 (x1 + l2_4) v_a))
def F_X11_changeOf (x1 : Int32) (v_a : Nat → Int64) : Option (Int32) := gi (2 : Int32) 499 (if ((x1 - ((v_a (2 : Int32).toNatClampNeg).toInt32)) + (1 : Int32)) ≤ 0 then (F_X11_changeOf_b25 x1 ((v_a (2 : Int32).toNatClampNeg).toInt32) (0 : Int32) v_a) else (F_X11_changeOf_b25 x1 ((v_a (2 : Int32).toNatClampNeg).toInt32) ((x1 - ((v_a (2 : Int32).toNatClampNeg).toInt32)) + (1 : Int32)) v_a))
def F_X11_isChapter_b42 (x1 : Int32) (x2 : Int32) (v_a : Nat → Int64) : Option (Int32) := ob1 (F_X11_spoken (x2 + (1 : Int32)) v_a) (fun r_1 => ob1 (F_X11_spoken x1 v_a) (fun r_2 => gi (0 : Int32) 499 (gi (1 : Int32) 499 (ob1 (F_X11_isIn ((r_1 - r_2).toInt64) (v_a (0 : Int32).toNatClampNeg) (v_a (1 : Int32).toNatClampNeg)) (fun r_5 => gb r_5 (some r_5))))))
def F_X11_isChapter_b24 (x1 : Int32) (x2 : Int32) (v_toLeave : Int32) (v_a : Nat → Int64) : Option (Int32) := if v_toLeave = (-1 : Int32) then (F_X11_isChapter_b42 x1 x2 v_a) else (if x2 = v_toLeave then (some (0 : Int32)) else (F_X11_isChapter_b42 x1 x2 v_a))
def F_X11_isChapter (x1 : Int32) (x2 : Int32) (v_toCut : Int32) (v_toLeave : Int32) (v_a : Nat → Int64) : Option (Int32) := if v_toCut = (-1 : Int32) then (F_X11_isChapter_b24 x1 x2 v_toLeave v_a) else (if v_toCut < x1 then (F_X11_isChapter_b24 x1 x2 v_toLeave v_a) else (if v_toCut < x2 then (some (0 : Int32)) else (F_X11_isChapter_b24 x1 x2 v_toLeave v_a)))
def F_X11_tries_b165 (x1 : Int32) (x2 : Int32) (l5_1 : Int32) (l6_2 : Int32) (st_3 : Int32) (v_worthFrom_4 : Nat → Int32) (v_cutsFrom_5 : Nat → Int32) (v_endFrom_6 : Nat → Int32) (v_waysFrom_7 : Nat → Int64) : Option ((Nat → Int32) × (Nat → Int32) × (Nat → Int32) × (Nat → Int64)) := if st_3 = 0 then (some (v_worthFrom_4, v_cutsFrom_5, v_endFrom_6, v_waysFrom_7)) else (gi x1 33 (gi x1 33 (gi x1 33 (some ((upd v_worthFrom_4 x1.toNatClampNeg l5_1), (upd v_cutsFrom_5 x1.toNatClampNeg l6_2), (upd v_endFrom_6 x1.toNatClampNeg x2), v_waysFrom_7)))))
def F_X11_tries_b164 (x1 : Int32) (x2 : Int32) (l5_12 : Int32) (l6_13 : Int32) (v_worthFrom_14 : Nat → Int32) (v_cutsFrom_15 : Nat → Int32) (v_endFrom_16 : Nat → Int32) (v_waysFrom_17 : Nat → Int64) : Option ((Nat → Int32) × (Nat → Int32) × (Nat → Int32) × (Nat → Int64)) := F_X11_tries_b165 x1 x2 l5_12 l6_13 (0 : Int32) v_worthFrom_14 v_cutsFrom_15 v_endFrom_16 v_waysFrom_17
def F_X11_tries_b160 (x1 : Int32) (x2 : Int32) (l5_18 : Int32) (l6_19 : Int32) (v_worthFrom_20 : Nat → Int32) (v_cutsFrom_21 : Nat → Int32) (v_endFrom_22 : Nat → Int32) (v_waysFrom_23 : Nat → Int64) : Option ((Nat → Int32) × (Nat → Int32) × (Nat → Int32) × (Nat → Int64)) := F_X11_tries_b165 x1 x2 l5_18 l6_19 (1 : Int32) v_worthFrom_20 v_cutsFrom_21 v_endFrom_22 v_waysFrom_23
def F_X11_tries_b113 (x1 : Int32) (x2 : Int32) (l5_24 : Int32) (st_25 : Int32) (v_worthFrom_26 : Nat → Int32) (v_cutsFrom_27 : Nat → Int32) (v_endFrom_28 : Nat → Int32) (v_waysFrom_29 : Nat → Int64) : Option ((Nat → Int32) × (Nat → Int32) × (Nat → Int32) × (Nat → Int64)) := gi x1 33 (if (v_worthFrom_26 x1.toNatClampNeg) = (-1000000000 : Int32) then (F_X11_tries_b160 x1 x2 l5_24 st_25 v_worthFrom_26 v_cutsFrom_27 v_endFrom_28 v_waysFrom_29) else (gi x1 33 (if (v_worthFrom_26 x1.toNatClampNeg) < l5_24 then (F_X11_tries_b160 x1 x2 l5_24 st_25 v_worthFrom_26 v_cutsFrom_27 v_endFrom_28 v_waysFrom_29) else (gi x1 33 (if l5_24 = (v_worthFrom_26 x1.toNatClampNeg) then (gi x1 33 (if (v_cutsFrom_27 x1.toNatClampNeg) ≤ st_25 then (F_X11_tries_b164 x1 x2 l5_24 st_25 v_worthFrom_26 v_cutsFrom_27 v_endFrom_28 v_waysFrom_29) else (F_X11_tries_b160 x1 x2 l5_24 st_25 v_worthFrom_26 v_cutsFrom_27 v_endFrom_28 v_waysFrom_29))) else (F_X11_tries_b164 x1 x2 l5_24 st_25 v_worthFrom_26 v_cutsFrom_27 v_endFrom_28 v_waysFrom_29))))))
def F_X11_tries_b92 (x1 : Int32) (x2 : Int32) (l4_38 : Int32) (st_39 : Int32) (v_worthFrom_40 : Nat → Int32) (v_cutsFrom_41 : Nat → Int32) (v_endFrom_42 : Nat → Int32) (v_waysFrom_43 : Nat → Int64) : Option ((Nat → Int32) × (Nat → Int32) × (Nat → Int32) × (Nat → Int64)) := if l4_38 = 0 then (gi (x2 + (1 : Int32)) 33 (F_X11_tries_b113 x1 x2 st_39 ((1 : Int32) + (v_cutsFrom_41 (x2 + (1 : Int32)).toNatClampNeg)) v_worthFrom_40 v_cutsFrom_41 v_endFrom_42 v_waysFrom_43)) else (F_X11_tries_b113 x1 x2 st_39 (0 : Int32) v_worthFrom_40 v_cutsFrom_41 v_endFrom_42 v_waysFrom_43)
def F_X11_tries_b60 (x1 : Int32) (x2 : Int32) (l4_46 : Int32) (v_a : Nat → Int64) (v_worthFrom_47 : Nat → Int32) (v_cutsFrom_48 : Nat → Int32) (v_endFrom_49 : Nat → Int32) (v_changes : Nat → Int32) (v_waysFrom_50 : Nat → Int64) : Option ((Nat → Int32) × (Nat → Int32) × (Nat → Int32) × (Nat → Int64)) := if l4_46 = 0 then (gi x2 32 (gi (3 : Int32) 499 (gi (x2 + (1 : Int32)) 33 (F_X11_tries_b92 x1 x2 l4_46 (((v_changes x2.toNatClampNeg) - ((v_a (3 : Int32).toNatClampNeg).toInt32)) + (v_worthFrom_47 (x2 + (1 : Int32)).toNatClampNeg)) v_worthFrom_47 v_cutsFrom_48 v_endFrom_49 v_waysFrom_50)))) else (F_X11_tries_b92 x1 x2 l4_46 (0 : Int32) v_worthFrom_47 v_cutsFrom_48 v_endFrom_49 v_waysFrom_50)
def F_X11_tries_b38 (x1 : Int32) (x2 : Int32) (l4_55 : Int32) (st_56 : Int64) (st_57 : Int64) (st_58 : Int32) (v_a : Nat → Int64) (v_worthFrom_59 : Nat → Int32) (v_cutsFrom_60 : Nat → Int32) (v_endFrom_61 : Nat → Int32) (v_changes : Nat → Int32) (v_waysFrom_62 : Nat → Int64) : Option ((Nat → Int32) × (Nat → Int32) × (Nat → Int32) × (Nat → Int64)) := gi st_58 33 (if l4_55 = 0 then (gi (x2 + (1 : Int32)) 33 (if (v_worthFrom_59 (x2 + (1 : Int32)).toNatClampNeg) = (-1000000000 : Int32) then (some (v_worthFrom_59, v_cutsFrom_60, v_endFrom_61, (vp_updL v_waysFrom_62 st_58.toNatClampNeg (st_57 + st_56)))) else (F_X11_tries_b60 x1 x2 l4_55 v_a v_worthFrom_59 v_cutsFrom_60 v_endFrom_61 v_changes (vp_updL v_waysFrom_62 st_58.toNatClampNeg (st_57 + st_56))))) else (F_X11_tries_b60 x1 x2 l4_55 v_a v_worthFrom_59 v_cutsFrom_60 v_endFrom_61 v_changes (vp_updL v_waysFrom_62 st_58.toNatClampNeg (st_57 + st_56))))
def F_X11_tries_b12 (x1 : Int32) (x2 : Int32) (st_67 : Int32) (v_a : Nat → Int64) (v_worthFrom_68 : Nat → Int32) (v_cutsFrom_69 : Nat → Int32) (v_endFrom_70 : Nat → Int32) (v_changes : Nat → Int32) (v_waysFrom_71 : Nat → Int64) : Option ((Nat → Int32) × (Nat → Int32) × (Nat → Int32) × (Nat → Int64)) := gi x1 33 (if st_67 = 0 then (gi (x2 + (1 : Int32)) 33 (F_X11_tries_b38 x1 x2 st_67 (v_waysFrom_71 (x2 + (1 : Int32)).toNatClampNeg) (v_waysFrom_71 x1.toNatClampNeg) x1 v_a v_worthFrom_68 v_cutsFrom_69 v_endFrom_70 v_changes v_waysFrom_71)) else (F_X11_tries_b38 x1 x2 st_67 (1 : Int64) (v_waysFrom_71 x1.toNatClampNeg) x1 v_a v_worthFrom_68 v_cutsFrom_69 v_endFrom_70 v_changes v_waysFrom_71))
def F_X11_tries (x1 : Int32) (x2 : Int32) (x3 : Int32) (v_a : Nat → Int64) (v_worthFrom : Nat → Int32) (v_cutsFrom : Nat → Int32) (v_endFrom : Nat → Int32) (v_changes : Nat → Int32) (v_waysFrom : Nat → Int64) : Option ((Nat → Int32) × (Nat → Int32) × (Nat → Int32) × (Nat → Int64)) := if x2 = (x3 - (1 : Int32)) then (F_X11_tries_b12 x1 x2 (1 : Int32) v_a v_worthFrom v_cutsFrom v_endFrom v_changes v_waysFrom) else (F_X11_tries_b12 x1 x2 (0 : Int32) v_a v_worthFrom v_cutsFrom v_endFrom v_changes v_waysFrom)
def S_X11_laysDivisions_7 (l1_2 : Int32) (v_toCut : Int32) (v_toLeave : Int32) (v_a : Nat → Int64) (v_worthFrom_4 : Nat → Int32) (v_cutsFrom_5 : Nat → Int32) (v_endFrom_6 : Nat → Int32) (v_waysFrom_8 : Nat → Int64) (k : Int32 × (Nat → Int32) → Option (((Nat → Int32)))) (l2_3 : Int32) (v_changes_7 : Nat → Int32) : Option (((Nat → Int32))) := if (l1_2 - (1 : Int32)) ≤ l2_3 then (some (v_changes_7)) else (ob1 (F_X11_changeOf l2_3 v_a) (fun r_9 => gi l2_3 32 (k ((l2_3 + (1 : Int32)), (upd v_changes_7 l2_3.toNatClampNeg r_9)))))
def S_X11_laysDivisions_57 (l1_14 : Int32) (l2_23 : Int32) (v_toCut : Int32) (v_toLeave : Int32) (v_a : Nat → Int64) (v_changes_19 : Nat → Int32) (k : Int32 × (Nat → Int32) × (Nat → Int32) × (Nat → Int32) × (Nat → Int64) → Option (((Nat → Int32) × (Nat → Int32) × (Nat → Int32) × (Nat → Int64)))) (l3_24 : Int32) (v_worthFrom_25 : Nat → Int32) (v_cutsFrom_26 : Nat → Int32) (v_endFrom_27 : Nat → Int32) (v_waysFrom_28 : Nat → Int64) : Option (((Nat → Int32) × (Nat → Int32) × (Nat → Int32) × (Nat → Int64))) := if l1_14 ≤ l3_24 then (some (v_worthFrom_25, v_cutsFrom_26, v_endFrom_27, v_waysFrom_28)) else (ob1 (F_X11_isChapter l2_23 l3_24 v_toCut v_toLeave v_a) (fun r_29 => if r_29 = 0 then (k ((l3_24 + (1 : Int32)), v_worthFrom_25, v_cutsFrom_26, v_endFrom_27, v_waysFrom_28)) else (ob4 (F_X11_tries l2_23 l3_24 l1_14 v_a v_worthFrom_25 v_cutsFrom_26 v_endFrom_27 v_changes_19 v_waysFrom_28) (fun v_worthFrom_30 v_cutsFrom_31 v_endFrom_32 v_waysFrom_33 => k ((l3_24 + (1 : Int32)), v_worthFrom_30, v_cutsFrom_31, v_endFrom_32, v_waysFrom_33)))))
def S_X11_laysDivisions_35 (l1_14 : Int32) (v_toCut : Int32) (v_toLeave : Int32) (v_a : Nat → Int64) (v_changes_19 : Nat → Int32) (k : Int32 × (Nat → Int32) × (Nat → Int32) × (Nat → Int32) × (Nat → Int64) → Option (((Nat → Int32) × (Nat → Int32) × (Nat → Int32) × (Nat → Int64)))) (l2_15 : Int32) (v_worthFrom_16 : Nat → Int32) (v_cutsFrom_17 : Nat → Int32) (v_endFrom_18 : Nat → Int32) (v_waysFrom_20 : Nat → Int64) : Option (((Nat → Int32) × (Nat → Int32) × (Nat → Int32) × (Nat → Int64))) := if l2_15 < 0 then (some (v_worthFrom_16, v_cutsFrom_17, v_endFrom_18, v_waysFrom_20)) else (gi l2_15 33 (gi l2_15 33 (ob4 (wh (fun k q => S_X11_laysDivisions_57 l1_14 l2_15 v_toCut v_toLeave v_a v_changes_19 k q.1 q.2.1 q.2.2.1 q.2.2.2.1 q.2.2.2.2) wF (l2_15, (upd v_worthFrom_16 l2_15.toNatClampNeg (-1000000000 : Int32)), v_cutsFrom_17, v_endFrom_18, (vp_updL v_waysFrom_20 l2_15.toNatClampNeg (0 : Int64)))) (fun e_40 e_41 e_42 e_43 => k ((l2_15 + (-1 : Int32)), e_40, e_41, e_42, e_43)))))
def F_X11_laysDivisions (v_toCut : Int32) (v_toLeave : Int32) (v_a : Nat → Int64) (v_worthFrom : Nat → Int32) (v_cutsFrom : Nat → Int32) (v_endFrom : Nat → Int32) (v_changes : Nat → Int32) (v_waysFrom : Nat → Int64) : Option ((Nat → Int32) × (Nat → Int32) × (Nat → Int32) × (Nat → Int32) × (Nat → Int64)) := ob1 (F_X11_many v_a) (fun r_1 => ob1 (wh (fun k q => S_X11_laysDivisions_7 r_1 v_toCut v_toLeave v_a v_worthFrom v_cutsFrom v_endFrom v_waysFrom k q.1 q.2) wF ((0 : Int32), v_changes)) (fun e_13 => ob4 (wh (fun k q => S_X11_laysDivisions_35 r_1 v_toCut v_toLeave v_a e_13 k q.1 q.2.1 q.2.2.1 q.2.2.2.1 q.2.2.2.2) wF ((r_1 - (1 : Int32)), v_worthFrom, v_cutsFrom, v_endFrom, v_waysFrom)) (fun e_49 e_50 e_51 e_52 => some (e_49, e_50, e_51, e_13, e_52))))
def F_X11_hasBest (v_toCut : Int32) (v_toLeave : Int32) (v_a : Nat → Int64) (v_worthFrom : Nat → Int32) (v_cutsFrom : Nat → Int32) (v_endFrom : Nat → Int32) (v_changes : Nat → Int32) (v_waysFrom : Nat → Int64) : Option (Int32 × (Nat → Int32) × (Nat → Int32) × (Nat → Int32) × (Nat → Int32) × (Nat → Int64)) := ob5 (F_X11_laysDivisions v_toCut v_toLeave v_a v_worthFrom v_cutsFrom v_endFrom v_changes v_waysFrom) (fun v_worthFrom_1 v_cutsFrom_2 v_endFrom_3 v_changes_4 v_waysFrom_5 => ob1 (F_X11_many v_a) (fun r_6 => if r_6 ≤ 0 then (some ((0 : Int32), v_worthFrom_1, v_cutsFrom_2, v_endFrom_3, v_changes_4, v_waysFrom_5)) else (gi (0 : Int32) 33 (if (v_worthFrom_1 (0 : Int32).toNatClampNeg) = (-1000000000 : Int32) then (some ((0 : Int32), v_worthFrom_1, v_cutsFrom_2, v_endFrom_3, v_changes_4, v_waysFrom_5)) else (some ((1 : Int32), v_worthFrom_1, v_cutsFrom_2, v_endFrom_3, v_changes_4, v_waysFrom_5))))))
def S_X11_beginOf_4 (x1 : Int32) (v_endFrom : Nat → Int32) (k : Int32 × Int32 → Option ((Int32))) (l2_1 : Int32) (l3_2 : Int32) : Option ((Int32)) := if x1 ≤ l3_2 then (some (l2_1)) else (gi l2_1 33 (k (((v_endFrom l2_1.toNatClampNeg) + (1 : Int32)), (l3_2 + (1 : Int32)))))
def F_X11_beginOf (x1 : Int32) (v_endFrom : Nat → Int32) : Option (Int32) := ob1 (wh (fun k q => S_X11_beginOf_4 x1 v_endFrom k q.1 q.2) wF ((0 : Int32), (0 : Int32))) (fun e_6 => some e_6)
def S_X11_laysCuts_2 (v_toCut : Int32) (v_toLeave : Int32) (v_a : Nat → Int64) (v_worthFrom_2 : Nat → Int32) (v_cutsFrom_3 : Nat → Int32) (v_endFrom_4 : Nat → Int32) (v_changes_5 : Nat → Int32) (v_waysFrom_6 : Nat → Int64) (k : Int32 × (Nat → Int32) → Option (((Nat → Int32)))) (l1_1 : Int32) (v_isCut_7 : Nat → Int32) : Option (((Nat → Int32))) := if (32 : Int32) ≤ l1_1 then (some (v_isCut_7)) else (gi l1_1 32 (k ((l1_1 + (1 : Int32)), (upd v_isCut_7 l1_1.toNatClampNeg (vp_nar .boolean (0 : Int32))))))
def S_X11_laysCuts_31 (v_worthFrom_19 : Nat → Int32) (v_cutsFrom_20 : Nat → Int32) (v_endFrom_21 : Nat → Int32) (v_changes_22 : Nat → Int32) (v_waysFrom_23 : Nat → Int64) (k : Int32 × (Nat → Int32) → Option (((Nat → Int32)))) (l1_18 : Int32) (v_isCut_24 : Nat → Int32) : Option (((Nat → Int32))) := gi (0 : Int32) 33 (if (v_cutsFrom_20 (0 : Int32).toNatClampNeg) ≤ l1_18 then (some (v_isCut_24)) else (ob1 (F_X11_beginOf l1_18 v_endFrom_21) (fun r_26 => gi r_26 33 (gi (v_endFrom_21 r_26.toNatClampNeg) 32 (k ((l1_18 + (1 : Int32)), (upd v_isCut_24 (v_endFrom_21 r_26.toNatClampNeg).toNatClampNeg (vp_nar .boolean (1 : Int32)))))))))
def F_X11_laysCuts (v_toCut : Int32) (v_toLeave : Int32) (v_a : Nat → Int64) (v_worthFrom : Nat → Int32) (v_cutsFrom : Nat → Int32) (v_endFrom : Nat → Int32) (v_changes : Nat → Int32) (v_waysFrom : Nat → Int64) (v_isCut : Nat → Int32) : Option ((Nat → Int32) × (Nat → Int32) × (Nat → Int32) × (Nat → Int32) × (Nat → Int64) × (Nat → Int32)) := ob1 (wh (fun k q => S_X11_laysCuts_2 v_toCut v_toLeave v_a v_worthFrom v_cutsFrom v_endFrom v_changes v_waysFrom k q.1 q.2) wF ((0 : Int32), v_isCut)) (fun e_11 => ob6 (F_X11_hasBest v_toCut v_toLeave v_a v_worthFrom v_cutsFrom v_endFrom v_changes v_waysFrom) (fun r_12 v_worthFrom_13 v_cutsFrom_14 v_endFrom_15 v_changes_16 v_waysFrom_17 => if r_12 = 0 then (some (v_worthFrom_13, v_cutsFrom_14, v_endFrom_15, v_changes_16, v_waysFrom_17, e_11)) else (ob1 (wh (fun k q => S_X11_laysCuts_31 v_worthFrom_13 v_cutsFrom_14 v_endFrom_15 v_changes_16 v_waysFrom_17 k q.1 q.2) wF ((0 : Int32), e_11)) (fun e_31 => some (v_worthFrom_13, v_cutsFrom_14, v_endFrom_15, v_changes_16, v_waysFrom_17, e_31)))))
def F_X11_ofSlot (x1 : Int32) (x2 : Int32) (v_a : Nat → Int64) : Option (Int32) := gi (((394 : Int32) + ((3 : Int32) * x1)) + x2) 499 (some ((v_a (((394 : Int32) + ((3 : Int32) * x1)) + x2).toNatClampNeg).toInt32))
def F_X11_away (x1 : Int32) (x2 : Int32) (v_a : Nat → Int64) : Option (Int32) := ob1 (F_X11_spoken (x2 + (1 : Int32)) v_a) (fun r_1 => ob1 (F_X11_ofSlot x1 (0 : Int32) v_a) (fun r_2 => if 0 ≤ (r_1 - r_2) then (some (r_1 - r_2)) else (some (-(r_1 - r_2)))))
def F_X11_mayHave (x1 : Int32) (x2 : Int32) (v_a : Nat → Int64) : Option (Int32) := ob1 (F_X11_isLong x2 v_a) (fun r_1 => if r_1 = 0 then (some (0 : Int32)) else (ob1 (F_X11_away x1 x2 v_a) (fun r_2 => ob1 (F_X11_ofSlot x1 (2 : Int32) v_a) (fun r_3 => if r_3 < r_2 then (some (0 : Int32)) else (some (1 : Int32))))))
def S_X11_bestFrom_6 (x1 : Int32) (x3 : Int32) (v_a : Nat → Int64) (v_costAt : Nat → Int32) (k : Int32 × Int32 → Option ((Int32))) (l4_1 : Int32) (l5_2 : Int32) : Option ((Int32)) := ob1 (F_X11_many v_a) (fun r_3 => if (r_3 - (1 : Int32)) ≤ l5_2 then (some (l4_1)) else (gi (((32 : Int32) * x1) + l5_2) 160 (if (v_costAt (((32 : Int32) * x1) + l5_2).toNatClampNeg) = (1000000000 : Int32) then (k (l4_1, (l5_2 + (1 : Int32)))) else (ob1 (F_X11_spoken (l5_2 + (1 : Int32)) v_a) (fun r_5 => if x3 ≤ r_5 then (if l4_1 = (-1 : Int32) then (k (l5_2, (l5_2 + (1 : Int32)))) else (gi (((32 : Int32) * x1) + l5_2) 160 (gi (((32 : Int32) * x1) + l4_1) 160 (if (v_costAt (((32 : Int32) * x1) + l4_1).toNatClampNeg) ≤ (v_costAt (((32 : Int32) * x1) + l5_2).toNatClampNeg) then (k (l4_1, (l5_2 + (1 : Int32)))) else (k (l5_2, (l5_2 + (1 : Int32)))))))) else (k (l4_1, (l5_2 + (1 : Int32)))))))))
def F_X11_bestFrom (x1 : Int32) (x2 : Int32) (x3 : Int32) (v_a : Nat → Int64) (v_costAt : Nat → Int32) : Option (Int32) := ob1 (wh (fun k q => S_X11_bestFrom_6 x1 x3 v_a v_costAt k q.1 q.2) wF ((-1 : Int32), x2)) (fun e_14 => some e_14)
def F_X11_costOf_b34 (x1 : Int32) (x2 : Int32) (st_1 : Int32) (st_2 : Int32) (v_a : Nat → Int64) (v_costAt : Nat → Int32) : Option (Int32) := gi (8 : Int32) 499 (if (lg_cmp (x1.toInt64) ((v_a (8 : Int32).toNatClampNeg) - (1 : Int64))) = 0 then (some (st_2 + st_1)) else (ob1 (F_X11_spoken (x2 + (1 : Int32)) v_a) (fun r_4 => gi (5 : Int32) 499 (ob1 (F_X11_bestFrom (x1 + (1 : Int32)) (x2 + (1 : Int32)) (r_4 + ((v_a (5 : Int32).toNatClampNeg).toInt32)) v_a v_costAt) (fun r_6 => if r_6 = (-1 : Int32) then (some (1000000000 : Int32)) else (gi (((32 : Int32) * (x1 + (1 : Int32))) + r_6) 160 (some ((st_2 + st_1) + (v_costAt (((32 : Int32) * (x1 + (1 : Int32))) + r_6).toNatClampNeg)))))))))
def F_X11_costOf (x1 : Int32) (x2 : Int32) (v_a : Nat → Int64) (v_costAt : Nat → Int32) (v_isCut : Nat → Int32) : Option (Int32) := ob1 (F_X11_mayHave x1 x2 v_a) (fun r_10 => if r_10 = 0 then (some (1000000000 : Int32)) else (ob1 (F_X11_away x1 x2 v_a) (fun r_11 => gi x2 32 (if (v_isCut x2.toNatClampNeg) = 0 then (F_X11_costOf_b34 x1 x2 (20 : Int32) r_11 v_a v_costAt) else (F_X11_costOf_b34 x1 x2 (0 : Int32) r_11 v_a v_costAt)))))
def S_X11_laysPlaces_23 (l1_8 : Int32) (l2_18 : Int32) (v_a : Nat → Int64) (v_worthFrom_10 : Nat → Int32) (v_cutsFrom_11 : Nat → Int32) (v_endFrom_12 : Nat → Int32) (v_changes_13 : Nat → Int32) (v_waysFrom_14 : Nat → Int64) (v_places_16 : Nat → Int32) (v_isCut_17 : Nat → Int32) (k : Int32 × (Nat → Int32) → Option (((Nat → Int32)))) (l3_19 : Int32) (v_costAt_20 : Nat → Int32) : Option (((Nat → Int32))) := ob1 (F_X11_many v_a) (fun r_21 => if (r_21 - (1 : Int32)) ≤ l3_19 then (some (v_costAt_20)) else (ob1 (F_X11_costOf l2_18 l3_19 v_a v_costAt_20 v_isCut_17) (fun r_22 => gi (((32 : Int32) * l2_18) + l3_19) 160 (k ((l3_19 + (1 : Int32)), (upd v_costAt_20 (((32 : Int32) * l2_18) + l3_19).toNatClampNeg r_22))))))
def S_X11_laysPlaces_17 (l1_8 : Int32) (v_a : Nat → Int64) (v_worthFrom_10 : Nat → Int32) (v_cutsFrom_11 : Nat → Int32) (v_endFrom_12 : Nat → Int32) (v_changes_13 : Nat → Int32) (v_waysFrom_14 : Nat → Int64) (v_places_16 : Nat → Int32) (v_isCut_17 : Nat → Int32) (k : Int32 × (Nat → Int32) → Option (((Nat → Int32)))) (l2_9 : Int32) (v_costAt_15 : Nat → Int32) : Option (((Nat → Int32))) := if l2_9 < 0 then (some (v_costAt_15)) else (ob1 (wh (fun k q => S_X11_laysPlaces_23 l1_8 l2_9 v_a v_worthFrom_10 v_cutsFrom_11 v_endFrom_12 v_changes_13 v_waysFrom_14 v_places_16 v_isCut_17 k q.1 q.2) wF ((0 : Int32), v_costAt_15)) (fun e_26 => k ((l2_9 + (-1 : Int32)), e_26)))
def S_X11_laysPlaces_69 (l1_30 : Int32) (v_a : Nat → Int64) (v_worthFrom_34 : Nat → Int32) (v_cutsFrom_35 : Nat → Int32) (v_endFrom_36 : Nat → Int32) (v_changes_37 : Nat → Int32) (v_waysFrom_38 : Nat → Int64) (v_costAt_39 : Nat → Int32) (v_isCut_41 : Nat → Int32) (k : Int32 × Int32 × Int32 × (Nat → Int32) → Option (((Nat → Int32)) ⊕ ((Nat → Int32)))) (l2_31 : Int32) (l3_32 : Int32) (l4_33 : Int32) (v_places_40 : Nat → Int32) : Option (((Nat → Int32)) ⊕ ((Nat → Int32))) := if l1_30 ≤ l4_33 then (some (.inr (v_places_40))) else (ob1 (F_X11_bestFrom l4_33 l2_31 l3_32 v_a v_costAt_39) (fun r_42 => gi l4_33 5 (gi l4_33 5 (if ((upd v_places_40 l4_33.toNatClampNeg r_42) l4_33.toNatClampNeg) = (-1 : Int32) then (some (.inl ((upd v_places_40 l4_33.toNatClampNeg r_42)))) else (gi l4_33 5 (ob1 (F_X11_spoken (((upd v_places_40 l4_33.toNatClampNeg r_42) l4_33.toNatClampNeg) + (1 : Int32)) v_a) (fun r_46 => gi (5 : Int32) 499 (k ((((upd v_places_40 l4_33.toNatClampNeg r_42) l4_33.toNatClampNeg) + (1 : Int32)), (r_46 + ((v_a (5 : Int32).toNatClampNeg).toInt32)), (l4_33 + (1 : Int32)), (upd v_places_40 l4_33.toNatClampNeg r_42))))))))))
def F_X11_laysPlaces (v_toCut : Int32) (v_toLeave : Int32) (v_a : Nat → Int64) (v_worthFrom : Nat → Int32) (v_cutsFrom : Nat → Int32) (v_endFrom : Nat → Int32) (v_changes : Nat → Int32) (v_waysFrom : Nat → Int64) (v_costAt : Nat → Int32) (v_places : Nat → Int32) (v_isCut : Nat → Int32) : Option (Int32 × (Nat → Int32) × (Nat → Int32) × (Nat → Int32) × (Nat → Int32) × (Nat → Int64) × (Nat → Int32) × (Nat → Int32) × (Nat → Int32)) := ob6 (F_X11_laysCuts v_toCut v_toLeave v_a v_worthFrom v_cutsFrom v_endFrom v_changes v_waysFrom v_isCut) (fun v_worthFrom_1 v_cutsFrom_2 v_endFrom_3 v_changes_4 v_waysFrom_5 v_isCut_6 => gi (8 : Int32) 499 (ob1 (wh (fun k q => S_X11_laysPlaces_17 ((v_a (8 : Int32).toNatClampNeg).toInt32) v_a v_worthFrom_1 v_cutsFrom_2 v_endFrom_3 v_changes_4 v_waysFrom_5 v_places v_isCut_6 k q.1 q.2) wF ((((v_a (8 : Int32).toNatClampNeg).toInt32) - (1 : Int32)), v_costAt)) (fun e_29 => ob1 (wh (fun k q => S_X11_laysPlaces_69 ((v_a (8 : Int32).toNatClampNeg).toInt32) v_a v_worthFrom_1 v_cutsFrom_2 v_endFrom_3 v_changes_4 v_waysFrom_5 e_29 v_isCut_6 k q.1 q.2.1 q.2.2.1 q.2.2.2) wF ((0 : Int32), (0 : Int32), (0 : Int32), v_places)) (Sum.elim (un1 (fun e_52 => some ((-1 : Int32), v_worthFrom_1, v_cutsFrom_2, v_endFrom_3, v_changes_4, v_waysFrom_5, e_29, e_52, v_isCut_6))) (un1 (fun e_54 => if ((v_a (8 : Int32).toNatClampNeg).toInt32) = 0 then (some ((0 : Int32), v_worthFrom_1, v_cutsFrom_2, v_endFrom_3, v_changes_4, v_waysFrom_5, e_29, e_54, v_isCut_6)) else (gi (0 : Int32) 5 (gi (e_54 (0 : Int32).toNatClampNeg) 160 (some ((e_29 (e_54 (0 : Int32).toNatClampNeg).toNatClampNeg), v_worthFrom_1, v_cutsFrom_2, v_endFrom_3, v_changes_4, v_waysFrom_5, e_29, e_54, v_isCut_6))))))))))
def S_X11_realTime_18 (x1 : Int32) (v_a : Nat → Int64) (v_worthFrom_13 : Nat → Int32) (v_cutsFrom_14 : Nat → Int32) (v_endFrom_15 : Nat → Int32) (v_changes_16 : Nat → Int32) (v_waysFrom_17 : Nat → Int64) (v_costAt_18 : Nat → Int32) (v_places_19 : Nat → Int32) (v_isCut_20 : Nat → Int32) (k : Int32 × Int32 → Option ((Int32))) (l2_11 : Int32) (l3_12 : Int32) : Option ((Int32)) := gi (8 : Int32) 499 (if 0 ≤ (lg_cmp (l3_12.toInt64) (v_a (8 : Int32).toNatClampNeg)) then (some (l2_11)) else (gi l3_12 5 (if x1 ≤ (v_places_19 l3_12.toNatClampNeg) then (k ((l2_11 + (0 : Int32)), (l3_12 + (1 : Int32)))) else (ob1 (F_X11_ofSlot l3_12 (1 : Int32) v_a) (fun r_23 => k ((l2_11 + r_23), (l3_12 + (1 : Int32))))))))
def F_X11_realTime (x1 : Int32) (v_toCut : Int32) (v_toLeave : Int32) (v_a : Nat → Int64) (v_worthFrom : Nat → Int32) (v_cutsFrom : Nat → Int32) (v_endFrom : Nat → Int32) (v_changes : Nat → Int32) (v_waysFrom : Nat → Int64) (v_costAt : Nat → Int32) (v_places : Nat → Int32) (v_isCut : Nat → Int32) : Option (Int32 × (Nat → Int32) × (Nat → Int32) × (Nat → Int32) × (Nat → Int32) × (Nat → Int64) × (Nat → Int32) × (Nat → Int32) × (Nat → Int32)) := ob1 (F_X11_spoken x1 v_a) (fun r_1 => ob9 (F_X11_laysPlaces v_toCut v_toLeave v_a v_worthFrom v_cutsFrom v_endFrom v_changes v_waysFrom v_costAt v_places v_isCut) (fun r_2 v_worthFrom_3 v_cutsFrom_4 v_endFrom_5 v_changes_6 v_waysFrom_7 v_costAt_8 v_places_9 v_isCut_10 => if r_2 = (-1 : Int32) then (some (r_1, v_worthFrom_3, v_cutsFrom_4, v_endFrom_5, v_changes_6, v_waysFrom_7, v_costAt_8, v_places_9, v_isCut_10)) else (ob1 (wh (fun k q => S_X11_realTime_18 x1 v_a v_worthFrom_3 v_cutsFrom_4 v_endFrom_5 v_changes_6 v_waysFrom_7 v_costAt_8 v_places_9 v_isCut_10 k q.1 q.2) wF (r_1, (0 : Int32))) (fun e_27 => some (e_27, v_worthFrom_3, v_cutsFrom_4, v_endFrom_5, v_changes_6, v_waysFrom_7, v_costAt_8, v_places_9, v_isCut_10)))))
def F_X11_segment_b30 (x1 : Int32) (x2 : Int32) (st_1 : Int32) (v_thrown_2 : Int32) (v_toCut : Int32) (v_toLeave : Int32) (v_a : Nat → Int64) (v_worthFrom_3 : Nat → Int32) (v_cutsFrom_4 : Nat → Int32) (v_endFrom_5 : Nat → Int32) (v_changes_6 : Nat → Int32) (v_waysFrom_7 : Nat → Int64) (v_costAt_8 : Nat → Int32) (v_places_9 : Nat → Int32) (v_isCut_10 : Nat → Int32) : Option (Int32 × (Int32) × (Nat → Int32) × (Nat → Int32) × (Nat → Int32) × (Nat → Int32) × (Nat → Int64) × (Nat → Int32) × (Nat → Int32) × (Nat → Int32)) := if st_1 ≤ 0 then (if x2 = 3 then (ob1 (F_X11_spoken x1 v_a) (fun r_23 => some (r_23, st_1, v_worthFrom_3, v_cutsFrom_4, v_endFrom_5, v_changes_6, v_waysFrom_7, v_costAt_8, v_places_9, v_isCut_10))) else (if x2 = 4 then (ob9 (F_X11_realTime x1 v_toCut v_toLeave v_a v_worthFrom_3 v_cutsFrom_4 v_endFrom_5 v_changes_6 v_waysFrom_7 v_costAt_8 v_places_9 v_isCut_10) (fun r_14 v_worthFrom_15 v_cutsFrom_16 v_endFrom_17 v_changes_18 v_waysFrom_19 v_costAt_20 v_places_21 v_isCut_22 => some (r_14, st_1, v_worthFrom_15, v_cutsFrom_16, v_endFrom_17, v_changes_18, v_waysFrom_19, v_costAt_20, v_places_21, v_isCut_22))) else (ob1 (F_X11_of x1 x2 v_a) (fun r_11 => some (r_11, st_1, v_worthFrom_3, v_cutsFrom_4, v_endFrom_5, v_changes_6, v_waysFrom_7, v_costAt_8, v_places_9, v_isCut_10))))) else (some ((0 : Int32), st_1, v_worthFrom_3, v_cutsFrom_4, v_endFrom_5, v_changes_6, v_waysFrom_7, v_costAt_8, v_places_9, v_isCut_10))
def F_X11_segment (x1 : Int32) (x2 : Int32) (v_thrown : Int32) (v_toCut : Int32) (v_toLeave : Int32) (v_a : Nat → Int64) (v_worthFrom : Nat → Int32) (v_cutsFrom : Nat → Int32) (v_endFrom : Nat → Int32) (v_changes : Nat → Int32) (v_waysFrom : Nat → Int64) (v_costAt : Nat → Int32) (v_places : Nat → Int32) (v_isCut : Nat → Int32) : Option (Int32 × (Int32) × (Nat → Int32) × (Nat → Int32) × (Nat → Int32) × (Nat → Int32) × (Nat → Int64) × (Nat → Int32) × (Nat → Int32) × (Nat → Int32)) := ob1 (F_X11_isSegment x1 v_a) (fun r_25 => if r_25 = 0 then (F_X11_segment_b30 x1 x2 (1 : Int32) v_thrown v_toCut v_toLeave v_a v_worthFrom v_cutsFrom v_endFrom v_changes v_waysFrom v_costAt v_places v_isCut) else (ob1 (F_X11_isIn (x2.toInt64) (0 : Int64) (4 : Int64)) (fun r_26 => if r_26 = 0 then (F_X11_segment_b30 x1 x2 (2 : Int32) v_thrown v_toCut v_toLeave v_a v_worthFrom v_cutsFrom v_endFrom v_changes v_waysFrom v_costAt v_places v_isCut) else (F_X11_segment_b30 x1 x2 (0 : Int32) v_thrown v_toCut v_toLeave v_a v_worthFrom v_cutsFrom v_endFrom v_changes v_waysFrom v_costAt v_places v_isCut))))
def F_X11_wordOf_b32 (x1 : Int32) (x2 : Int32) (st_1 : Int32) (v_thrown_2 : Int32) (v_a : Nat → Int64) : Option (Int32 × (Int32)) := if st_1 ≤ 0 then (ob1 (F_X11_of x1 ((3 : Int32) + x2) v_a) (fun r_3 => some (r_3, st_1))) else (some ((0 : Int32), st_1))
def F_X11_wordOf_b31 (x1 : Int32) (x2 : Int32) (v_thrown_5 : Int32) (v_a : Nat → Int64) : Option (Int32 × (Int32)) := F_X11_wordOf_b32 x1 x2 (1 : Int32) v_thrown_5 v_a
def F_X11_wordOf (x1 : Int32) (x2 : Int32) (v_thrown : Int32) (v_a : Nat → Int64) : Option (Int32 × (Int32)) := ob1 (F_X11_isSegment x1 v_a) (fun r_6 => if r_6 = 0 then (F_X11_wordOf_b31 x1 x2 v_thrown v_a) else (ob1 (F_X11_of x1 (2 : Int32) v_a) (fun r_7 => ob1 (F_X11_isIn (x2.toInt64) (0 : Int64) ((r_7 - (1 : Int32)).toInt64)) (fun r_8 => if r_8 = 0 then (F_X11_wordOf_b31 x1 x2 v_thrown v_a) else (F_X11_wordOf_b32 x1 x2 (0 : Int32) v_thrown v_a)))))
def S_X11_find_7 (x1 : Int64) (v_thrown_2 : Int32) (v_a : Nat → Int64) (k : Int32 → Option ((Int32) ⊕ (Unit))) (l3_1 : Int32) : Option ((Int32) ⊕ (Unit)) := gi (7 : Int32) 499 (if 0 ≤ (lg_cmp (l3_1.toInt64) (v_a (7 : Int32).toNatClampNeg)) then (some (.inr ())) else (gi ((475 : Int32) + l3_1) 499 (if (lg_cmp (v_a ((475 : Int32) + l3_1).toNatClampNeg) x1) = 0 then (some (.inl (l3_1))) else (k (l3_1 + (1 : Int32))))))
def F_X11_find (x1 : Int64) (v_thrown : Int32) (v_a : Nat → Int64) : Option (Int32 × (Int32)) := ob1 (wh (fun k q => S_X11_find_7 x1 (0 : Int32) v_a k q) wF (0 : Int32)) (Sum.elim (un1 (fun e_8 => some (e_8, (0 : Int32)))) (un1 (fun _u => some ((-1 : Int32), (0 : Int32)))))
def F_X11_isKnown (x1 : Int32) (v_a : Nat → Int64) : Option (Int32) := gi (7 : Int32) 499 (ob1 (F_X11_isIn (x1.toInt64) (0 : Int64) ((v_a (7 : Int32).toNatClampNeg) - (1 : Int64))) (fun r_2 => gb r_2 (some r_2)))
def F_X11_uses_b39 (x1 : Int32) (x2 : Int32) (x3 : Int32) (st_1 : Int32) (v_thrown_2 : Int32) (v_a : Nat → Int64) : Option (Int32 × (Int32)) := if st_1 ≤ 0 then (ob1 (F_X11_usesIn x1 x2 x3 v_a) (fun r_3 => some (r_3, st_1))) else (some ((0 : Int32), st_1))
def F_X11_uses_b25 (x1 : Int32) (x2 : Int32) (x3 : Int32) (v_thrown_5 : Int32) (v_a : Nat → Int64) : Option (Int32 × (Int32)) := F_X11_uses_b39 x1 x2 x3 (1 : Int32) v_thrown_5 v_a
def F_X11_uses (x1 : Int32) (x2 : Int32) (x3 : Int32) (v_thrown : Int32) (v_a : Nat → Int64) : Option (Int32 × (Int32)) := ob1 (F_X11_isKnown x1 v_a) (fun r_6 => if r_6 = 0 then (F_X11_uses_b25 x1 x2 x3 v_thrown v_a) else (ob1 (F_X11_isSegment x2 v_a) (fun r_7 => if r_7 = 0 then (F_X11_uses_b25 x1 x2 x3 v_thrown v_a) else (ob1 (F_X11_isSegment x3 v_a) (fun r_8 => if r_8 = 0 then (F_X11_uses_b25 x1 x2 x3 v_thrown v_a) else (if x2 ≤ x3 then (F_X11_uses_b39 x1 x2 x3 (0 : Int32) v_thrown v_a) else (F_X11_uses_b39 x1 x2 x3 (2 : Int32) v_thrown v_a)))))))
def F_X11_puts (x1 : Int32) (x2 : Int32) (x3 : Int32) (v_keptMany : Int32) (v_a : Nat → Int64) (v_kept : Nat → Int64) : Option (Int32 × (Int32) × (Nat → Int64) × (Nat → Int64)) := ob2 (F_X11_keeps v_keptMany v_a v_kept) (fun v_keptMany_1 v_kept_2 => ob1 (F_X11_of x1 x2 v_a) (fun r_3 => gi (((10 : Int32) + ((12 : Int32) * x1)) + x2) 499 (some (r_3, v_keptMany_1, (vp_updL v_a (((10 : Int32) + ((12 : Int32) * x1)) + x2).toNatClampNeg (x3.toInt64)), v_kept_2))))
def F_X11_setDuration_b30 (x1 : Int32) (x2 : Int32) (st_1 : Int32) (v_keptMany_2 : Int32) (v_thrown_3 : Int32) (v_a_4 : Nat → Int64) (v_kept_5 : Nat → Int64) : Option (Int32 × (Int32) × (Int32) × (Nat → Int64) × (Nat → Int64)) := if st_1 ≤ 0 then (ob4 (F_X11_puts x1 (0 : Int32) x2 v_keptMany_2 v_a_4 v_kept_5) (fun r_6 v_keptMany_7 v_a_8 v_kept_9 => some (r_6, v_keptMany_7, st_1, v_a_8, v_kept_9))) else (some ((0 : Int32), v_keptMany_2, st_1, v_a_4, v_kept_5))
def F_X11_setDuration (x1 : Int32) (x2 : Int32) (v_keptMany : Int32) (v_thrown : Int32) (v_a : Nat → Int64) (v_kept : Nat → Int64) : Option (Int32 × (Int32) × (Int32) × (Nat → Int64) × (Nat → Int64)) := ob1 (F_X11_isSegment x1 v_a) (fun r_11 => if r_11 = 0 then (F_X11_setDuration_b30 x1 x2 (1 : Int32) v_keptMany v_thrown v_a v_kept) else (ob1 (F_X11_isIn (x2.toInt64) (1 : Int64) (999 : Int64)) (fun r_12 => if r_12 = 0 then (F_X11_setDuration_b30 x1 x2 (2 : Int32) v_keptMany v_thrown v_a v_kept) else (F_X11_setDuration_b30 x1 x2 (0 : Int32) v_keptMany v_thrown v_a v_kept))))
def F_X11_setPause_b30 (x1 : Int32) (x2 : Int32) (st_1 : Int32) (v_keptMany_2 : Int32) (v_thrown_3 : Int32) (v_a_4 : Nat → Int64) (v_kept_5 : Nat → Int64) : Option (Int32 × (Int32) × (Int32) × (Nat → Int64) × (Nat → Int64)) := if st_1 ≤ 0 then (ob4 (F_X11_puts x1 (1 : Int32) x2 v_keptMany_2 v_a_4 v_kept_5) (fun r_6 v_keptMany_7 v_a_8 v_kept_9 => some (r_6, v_keptMany_7, st_1, v_a_8, v_kept_9))) else (some ((0 : Int32), v_keptMany_2, st_1, v_a_4, v_kept_5))
def F_X11_setPause (x1 : Int32) (x2 : Int32) (v_keptMany : Int32) (v_thrown : Int32) (v_a : Nat → Int64) (v_kept : Nat → Int64) : Option (Int32 × (Int32) × (Int32) × (Nat → Int64) × (Nat → Int64)) := ob1 (F_X11_isSegment x1 v_a) (fun r_11 => if r_11 = 0 then (F_X11_setPause_b30 x1 x2 (1 : Int32) v_keptMany v_thrown v_a v_kept) else (ob1 (F_X11_isIn (x2.toInt64) (0 : Int64) (99 : Int64)) (fun r_12 => if r_12 = 0 then (F_X11_setPause_b30 x1 x2 (2 : Int32) v_keptMany v_thrown v_a v_kept) else (F_X11_setPause_b30 x1 x2 (0 : Int32) v_keptMany v_thrown v_a v_kept))))
def F_X11_addWord_b37 (x1 : Int32) (x2 : Int32) (st_1 : Int32) (v_keptMany_2 : Int32) (v_thrown_3 : Int32) (v_a_4 : Nat → Int64) (v_kept_5 : Nat → Int64) : Option (Int32 × (Int32) × (Int32) × (Nat → Int64) × (Nat → Int64)) := if st_1 ≤ 0 then (ob1 (F_X11_of x1 (2 : Int32) v_a_4) (fun r_6 => ob4 (F_X11_puts x1 ((3 : Int32) + r_6) x2 v_keptMany_2 v_a_4 v_kept_5) (fun r_7 v_keptMany_8 v_a_9 v_kept_10 => gi (((10 : Int32) + ((12 : Int32) * x1)) + (2 : Int32)) 499 (some ((r_6 + (1 : Int32)), v_keptMany_8, st_1, (vp_updL v_a_9 (((10 : Int32) + ((12 : Int32) * x1)) + (2 : Int32)).toNatClampNeg ((r_6 + (1 : Int32)).toInt64)), v_kept_10))))) else (some ((0 : Int32), v_keptMany_2, st_1, v_a_4, v_kept_5))
def F_X11_addWord_b17 (x1 : Int32) (x2 : Int32) (v_keptMany_13 : Int32) (v_thrown_14 : Int32) (v_a_15 : Nat → Int64) (v_kept_16 : Nat → Int64) : Option (Int32 × (Int32) × (Int32) × (Nat → Int64) × (Nat → Int64)) := F_X11_addWord_b37 x1 x2 (1 : Int32) v_keptMany_13 v_thrown_14 v_a_15 v_kept_16
def F_X11_addWord (x1 : Int32) (x2 : Int32) (v_keptMany : Int32) (v_thrown : Int32) (v_a : Nat → Int64) (v_kept : Nat → Int64) : Option (Int32 × (Int32) × (Int32) × (Nat → Int64) × (Nat → Int64)) := ob1 (F_X11_isSegment x1 v_a) (fun r_17 => if r_17 = 0 then (F_X11_addWord_b17 x1 x2 v_keptMany v_thrown v_a v_kept) else (ob1 (F_X11_isKnown x2 v_a) (fun r_18 => if r_18 = 0 then (F_X11_addWord_b17 x1 x2 v_keptMany v_thrown v_a v_kept) else (ob1 (F_X11_of x1 (2 : Int32) v_a) (fun r_19 => if r_19 = (8 : Int32) then (F_X11_addWord_b37 x1 x2 (2 : Int32) v_keptMany v_thrown v_a v_kept) else (F_X11_addWord_b37 x1 x2 (0 : Int32) v_keptMany v_thrown v_a v_kept))))))
def S_X11_removeSegment_45 (l2_9 : Int32) (v_keptMany_11 : Int32) (v_thrown_12 : Int32) (v_kept_14 : Nat → Int64) (k : Int32 × (Nat → Int64) → Option (((Nat → Int64)))) (l3_10 : Int32) (v_a_13 : Nat → Int64) : Option (((Nat → Int64))) := if ((10 : Int32) + ((12 : Int32) * l2_9)) ≤ l3_10 then (some (v_a_13)) else (gi (l3_10 + (12 : Int32)) 499 (gi l3_10 499 (k ((l3_10 + (1 : Int32)), (vp_updL v_a_13 l3_10.toNatClampNeg (v_a_13 (l3_10 + (12 : Int32)).toNatClampNeg))))))
def S_X11_removeSegment_85 (l2_20 : Int32) (v_keptMany_22 : Int32) (v_thrown_23 : Int32) (v_kept_25 : Nat → Int64) (k : Int32 × (Nat → Int64) → Option (((Nat → Int64)))) (l3_21 : Int32) (v_a_24 : Nat → Int64) : Option (((Nat → Int64))) := if (((10 : Int32) + ((12 : Int32) * l2_20)) + (12 : Int32)) ≤ l3_21 then (some (v_a_24)) else (gi l3_21 499 (k ((l3_21 + (1 : Int32)), (vp_updL v_a_24 l3_21.toNatClampNeg (0 : Int64)))))
def F_X11_removeSegment_b14 (x1 : Int32) (st_1 : Int32) (v_keptMany_2 : Int32) (v_thrown_3 : Int32) (v_a_4 : Nat → Int64) (v_kept_5 : Nat → Int64) : Option (Int32 × (Int32) × (Int32) × (Nat → Int64) × (Nat → Int64)) := if st_1 ≤ 0 then (ob2 (F_X11_keeps v_keptMany_2 v_a_4 v_kept_5) (fun v_keptMany_6 v_kept_7 => ob1 (F_X11_many v_a_4) (fun r_8 => ob1 (wh (fun k q => S_X11_removeSegment_45 (r_8 - (1 : Int32)) v_keptMany_6 st_1 v_kept_7 k q.1 q.2) wF (((10 : Int32) + ((12 : Int32) * x1)), v_a_4)) (fun e_19 => ob1 (wh (fun k q => S_X11_removeSegment_85 (r_8 - (1 : Int32)) v_keptMany_6 st_1 v_kept_7 k q.1 q.2) wF (((10 : Int32) + ((12 : Int32) * (r_8 - (1 : Int32)))), e_19)) (fun e_29 => gi (6 : Int32) 499 (some ((r_8 - (1 : Int32)), v_keptMany_6, st_1, (vp_updL e_29 (6 : Int32).toNatClampNeg ((r_8 - (1 : Int32)).toInt64)), v_kept_7))))))) else (some ((0 : Int32), v_keptMany_2, st_1, v_a_4, v_kept_5))
def F_X11_removeSegment (x1 : Int32) (v_keptMany : Int32) (v_thrown : Int32) (v_a : Nat → Int64) (v_kept : Nat → Int64) : Option (Int32 × (Int32) × (Int32) × (Nat → Int64) × (Nat → Int64)) := ob1 (F_X11_isSegment x1 v_a) (fun r_32 => if r_32 = 0 then (F_X11_removeSegment_b14 x1 (1 : Int32) v_keptMany v_thrown v_a v_kept) else (F_X11_removeSegment_b14 x1 (0 : Int32) v_keptMany v_thrown v_a v_kept))
def S_X11_swaps_2 (x1 : Int32) (x2 : Int32) (k : Int32 × (Nat → Int64) → Option (((Nat → Int64)))) (l3_1 : Int32) (v_a_2 : Nat → Int64) : Option (((Nat → Int64))) := if (12 : Int32) ≤ l3_1 then (some (v_a_2)) else (gi (((10 : Int32) + ((12 : Int32) * x1)) + l3_1) 499 (gi (((10 : Int32) + ((12 : Int32) * x2)) + l3_1) 499 (gi (((10 : Int32) + ((12 : Int32) * x1)) + l3_1) 499 (gi (((10 : Int32) + ((12 : Int32) * x2)) + l3_1) 499 (k ((l3_1 + (1 : Int32)), (vp_updL (vp_updL v_a_2 (((10 : Int32) + ((12 : Int32) * x1)) + l3_1).toNatClampNeg (v_a_2 (((10 : Int32) + ((12 : Int32) * x2)) + l3_1).toNatClampNeg)) (((10 : Int32) + ((12 : Int32) * x2)) + l3_1).toNatClampNeg (v_a_2 (((10 : Int32) + ((12 : Int32) * x1)) + l3_1).toNatClampNeg))))))))
def F_X11_swaps (x1 : Int32) (x2 : Int32) (v_a : Nat → Int64) : Option ((Nat → Int64)) := ob1 (wh (fun k q => S_X11_swaps_2 x1 x2 k q.1 q.2) wF ((0 : Int32), v_a)) (fun e_9 => some e_9)
def S_X11_moveSegment_40 (x1 : Int32) (x2 : Int32) (v_keptMany_9 : Int32) (v_thrown_10 : Int32) (v_kept_12 : Nat → Int64) (k : Int32 × (Nat → Int64) → Option (((Nat → Int64)))) (l3_8 : Int32) (v_a_11 : Nat → Int64) : Option (((Nat → Int64))) := if x2 ≤ l3_8 then (some (v_a_11)) else (ob1 (F_X11_swaps l3_8 (l3_8 + (1 : Int32)) v_a_11) (fun v_a_13 => k ((l3_8 + (1 : Int32)), v_a_13)))
def S_X11_moveSegment_61 (x2 : Int32) (v_keptMany_18 : Int32) (v_thrown_19 : Int32) (v_kept_21 : Nat → Int64) (k : Int32 × (Nat → Int64) → Option (((Nat → Int64)))) (l3_17 : Int32) (v_a_20 : Nat → Int64) : Option (((Nat → Int64))) := if l3_17 ≤ x2 then (some (v_a_20)) else (ob1 (F_X11_swaps l3_17 (l3_17 - (1 : Int32)) v_a_20) (fun v_a_22 => k ((l3_17 + (-1 : Int32)), v_a_22)))
def F_X11_moveSegment_b22 (x1 : Int32) (x2 : Int32) (st_1 : Int32) (v_keptMany_2 : Int32) (v_thrown_3 : Int32) (v_a_4 : Nat → Int64) (v_kept_5 : Nat → Int64) : Option (Int32 × (Int32) × (Int32) × (Nat → Int64) × (Nat → Int64)) := if st_1 ≤ 0 then (ob2 (F_X11_keeps v_keptMany_2 v_a_4 v_kept_5) (fun v_keptMany_6 v_kept_7 => ob1 (wh (fun k q => S_X11_moveSegment_40 x1 x2 v_keptMany_6 st_1 v_kept_7 k q.1 q.2) wF (x1, v_a_4)) (fun e_16 => ob1 (wh (fun k q => S_X11_moveSegment_61 x2 v_keptMany_6 st_1 v_kept_7 k q.1 q.2) wF (x1, e_16)) (fun e_25 => ob1 (F_X11_spoken x2 e_25) (fun r_26 => some (r_26, v_keptMany_6, st_1, e_25, v_kept_7)))))) else (some ((0 : Int32), v_keptMany_2, st_1, v_a_4, v_kept_5))
def F_X11_moveSegment_b21 (x1 : Int32) (x2 : Int32) (v_keptMany_28 : Int32) (v_thrown_29 : Int32) (v_a_30 : Nat → Int64) (v_kept_31 : Nat → Int64) : Option (Int32 × (Int32) × (Int32) × (Nat → Int64) × (Nat → Int64)) := F_X11_moveSegment_b22 x1 x2 (1 : Int32) v_keptMany_28 v_thrown_29 v_a_30 v_kept_31
def F_X11_moveSegment (x1 : Int32) (x2 : Int32) (v_keptMany : Int32) (v_thrown : Int32) (v_a : Nat → Int64) (v_kept : Nat → Int64) : Option (Int32 × (Int32) × (Int32) × (Nat → Int64) × (Nat → Int64)) := ob1 (F_X11_isSegment x1 v_a) (fun r_32 => if r_32 = 0 then (F_X11_moveSegment_b21 x1 x2 v_keptMany v_thrown v_a v_kept) else (ob1 (F_X11_isSegment x2 v_a) (fun r_33 => if r_33 = 0 then (F_X11_moveSegment_b21 x1 x2 v_keptMany v_thrown v_a v_kept) else (F_X11_moveSegment_b22 x1 x2 (0 : Int32) v_keptMany v_thrown v_a v_kept))))
def S_X11_segmentAt_7 (x1 : Int32) (v_thrown_2 : Int32) (v_a : Nat → Int64) (k : Int32 → Option ((Int32) ⊕ (Unit))) (l2_1 : Int32) : Option ((Int32) ⊕ (Unit)) := ob1 (F_X11_many v_a) (fun r_3 => if r_3 ≤ l2_1 then (some (.inr ())) else (ob1 (F_X11_spoken l2_1 v_a) (fun r_4 => if x1 < r_4 then (k (l2_1 + (1 : Int32))) else (ob1 (F_X11_spoken (l2_1 + (1 : Int32)) v_a) (fun r_5 => if r_5 ≤ x1 then (k (l2_1 + (1 : Int32))) else (some (.inl (l2_1))))))))
def F_X11_segmentAt (x1 : Int32) (v_thrown : Int32) (v_a : Nat → Int64) : Option (Int32 × (Int32)) := ob1 (wh (fun k q => S_X11_segmentAt_7 x1 (0 : Int32) v_a k q) wF (0 : Int32)) (Sum.elim (un1 (fun e_10 => some (e_10, (0 : Int32)))) (un1 (fun _u => some ((-1 : Int32), (0 : Int32)))))
def F_X11_isBoundary (x1 : Int32) (v_a : Nat → Int64) : Option (Int32) := ob1 (F_X11_many v_a) (fun r_1 => ob1 (F_X11_isIn (x1.toInt64) (0 : Int64) ((r_1 - (2 : Int32)).toInt64)) (fun r_2 => gb r_2 (some r_2)))
def F_X11_change_b14 (x1 : Int32) (st_1 : Int32) (v_thrown_2 : Int32) (v_a : Nat → Int64) : Option (Int32 × (Int32)) := if st_1 ≤ 0 then (ob1 (F_X11_changeOf x1 v_a) (fun r_3 => some (r_3, st_1))) else (some ((0 : Int32), st_1))
def F_X11_change (x1 : Int32) (v_thrown : Int32) (v_a : Nat → Int64) : Option (Int32 × (Int32)) := ob1 (F_X11_isBoundary x1 v_a) (fun r_5 => if r_5 = 0 then (F_X11_change_b14 x1 (1 : Int32) v_thrown v_a) else (F_X11_change_b14 x1 (0 : Int32) v_thrown v_a))
theorem hy_X11_thrown : yX11_thrown.cls = RX11 ∧ yX11_thrown.cls ≠ "java/lang/invoke/MethodHandle" ∧ yX11_thrown.cls ≠ "java/lang/invoke/VarHandle" ∧ (parseMethodDescriptor yX11_thrown.desc).map (fun d => d.parameters.length) = some 0 := by decide +kernel
set_option maxRecDepth 20000 in
set_option maxHeartbeats 4000000 in
theorem k_X11_thrown (l : Launch) (D : va_G) (cI cJ cZ cO : ClassId) (z : Nat → Nat)   (h_t_ : Nat) (h_a : Nat) (h_fresh : Nat) (h_kept : Nat) (h_buffer : Nat) (h_worthFrom : Nat) (h_cutsFrom : Nat) (h_endFrom : Nat) (h_changes : Nat) (h_waysFrom : Nat) (h_costAt : Nat) (h_places : Nat) (h_isCut : Nat) (h_written : Nat)  (v_keptMany : Int32) (v_thrown : Int32) (v_buffered : Int32) (v_size : Int32) (v_at : Int32) (v_behind : Int32) (v_kind : Int32) (v_wrong : Int32) (v_wrongAt : Int32) (v_errorAt : Int32) (v_number : Int64) (v_toCut : Int32) (v_toLeave : Int32) (v_writtenMany : Int32) (r_ : Int32) (hF : F_X11_thrown v_thrown = some r_) : Mi l yX11_thrown wsX11_thrown (rmD 0) D (gq_ty cI cJ cZ cO) z [.ref h_t_] [(h_t_, .inr (11, [.ref h_a, .ref h_fresh, .ref h_kept, .int v_keptMany, .int v_thrown, .ref h_buffer, .int v_buffered, .int v_size, .int v_at, .int v_behind, .int v_kind, .int v_wrong, .int v_wrongAt, .int v_errorAt, .long v_number, .ref h_worthFrom, .ref h_cutsFrom, .ref h_endFrom, .ref h_changes, .ref h_waysFrom, .int v_toCut, .int v_toLeave, .ref h_costAt, .ref h_places, .ref h_isCut, .ref h_written, .int v_writtenMany]))] r_ [(h_t_, .inr (11, [.ref h_a, .ref h_fresh, .ref h_kept, .int v_keptMany, .int v_thrown, .ref h_buffer, .int v_buffered, .int v_size, .int v_at, .int v_behind, .int v_kind, .int v_wrong, .int v_wrongAt, .int v_errorAt, .long v_number, .ref h_worthFrom, .ref h_cutsFrom, .ref h_endFrom, .ref h_changes, .ref h_waysFrom, .int v_toCut, .int v_toLeave, .ref h_costAt, .ref h_places, .ref h_isCut, .ref h_written, .int v_writtenMany]))] 0 0 := by
  refine Mi.of (cc := cX11_thrown) (maxL := 1) (by decide) rfl (Nat.le_of_ble_eq_true rfl) ⟨Nat.le_refl 0, Nat.le_refl 0⟩ ?_
  intro p e s m args below meth c A hC ha
  have hin_X11 : ∀ w ∈ wsX110, w ∈ wsX11_thrown := by decide +kernel
  have hw_79 : Cond.fieldLink RX11 79 (TX11 4).1 (TX11 4).2.1 (TX11 4).2.2.1 ∈ wsX11_thrown := by decide +kernel
  obtain ⟨Q, hQ⟩ : ∃ Q, Q = gq_Qi below D A args s r_ [(h_t_, .inr (11, [.ref h_a, .ref h_fresh, .ref h_kept, .int v_keptMany, .int v_thrown, .ref h_buffer, .int v_buffered, .int v_size, .int v_at, .int v_behind, .int v_kind, .int v_wrong, .int v_wrongAt, .int v_errorAt, .long v_number, .ref h_worthFrom, .ref h_cutsFrom, .ref h_endFrom, .ref h_changes, .ref h_waysFrom, .int v_toCut, .int v_toLeave, .ref h_costAt, .ref h_places, .ref h_isCut, .ref h_written, .int v_writtenMany]))] 0 0 := ⟨_, rfl⟩
  rw [← hQ]
  refine gq_loc [(0, .ref h_t_)] rfl ?_
  unfold F_X11_thrown at hF
  refine gq_aload_n hC 0 dX11_thrown_0 rfl rfl ?_
  refine gq_get hC (kf := 4) 0 hin_X11 rfl rfl (by decide) hw_79 rfl dX11_thrown_1 ?_
  cases hF
  rw [hQ]
  exact gq_iret hC rfl dX11_thrown_4
theorem hy_X11_isIn : yX11_isIn.cls = RX11 ∧ yX11_isIn.cls ≠ "java/lang/invoke/MethodHandle" ∧ yX11_isIn.cls ≠ "java/lang/invoke/VarHandle" ∧ (parseMethodDescriptor yX11_isIn.desc).map (fun d => d.parameters.length) = some 3 := by decide +kernel
set_option maxRecDepth 20000 in
set_option maxHeartbeats 4000000 in
theorem k_X11_isIn (l : Launch) (D : va_G) (cI cJ cZ cO : ClassId) (z : Nat → Nat)    (x0 : Int64) (x2 : Int64) (x4 : Int64)  (r_ : Int32) (hF : F_X11_isIn x0 x2 x4 = some r_) : Mi l yX11_isIn wsX11_isIn (rmD 0) D (gq_ty cI cJ cZ cO) z [.long x0, .long x2, .long x4] [] r_ [] 0 0 := by
  refine Mi.of (cc := cX11_isIn) (maxL := 6) (by decide) rfl (Nat.le_of_ble_eq_true rfl) ⟨Nat.le_refl 0, Nat.le_refl 0⟩ ?_
  intro p e s m args below meth c A hC ha
  obtain ⟨Q, hQ⟩ : ∃ Q, Q = gq_Qi below D A args s r_ [] 0 0 := ⟨_, rfl⟩
  rw [← hQ]
  refine gq_loc [(0, .long x0), (2, .long x2), (4, .long x4)] rfl ?_
  unfold F_X11_isIn at hF
  refine gq_lload_n hC 0 dX11_isIn_0 rfl rfl ?_
  refine gq_lload_n hC 1 dX11_isIn_1 rfl rfl ?_
  refine gq_lcmp hC dX11_isIn_2 ?_
  refine gq_if_lt hC 17 dX11_isIn_3 (by decide) (fun hc_2 => ?_) (fun hc_2 => ?_)
  · have hF := (if_pos hc_2).symm.trans hF
    refine gq_iconst hC (0 : Int32) dX11_isIn_17 (by decide) ?_
    cases hF
    rw [hQ]
    exact gq_iret hC rfl dX11_isIn_18
  · have hF := (if_neg hc_2).symm.trans hF
    refine gq_lload_n hC 0 dX11_isIn_6 rfl rfl ?_
    refine gq_lload hC 2 dX11_isIn_7 rfl ?_
    refine gq_lcmp hC dX11_isIn_9 ?_
    refine gq_if_gt hC 17 dX11_isIn_10 (by decide) (fun hc_1 => ?_) (fun hc_1 => ?_)
    · have hF := (if_pos hc_1).symm.trans hF
      refine gq_iconst hC (0 : Int32) dX11_isIn_17 (by decide) ?_
      cases hF
      rw [hQ]
      exact gq_iret hC rfl dX11_isIn_18
    · have hF := (if_neg hc_1).symm.trans hF
      refine gq_iconst hC (1 : Int32) dX11_isIn_13 (by decide) ?_
      refine gq_goto hC 18 dX11_isIn_14 (by decide) ?_
      cases hF
      rw [hQ]
      exact gq_iret hC rfl dX11_isIn_18
theorem hy_X11_begins : yX11_begins.cls = RX11 ∧ yX11_begins.cls ≠ "java/lang/invoke/MethodHandle" ∧ yX11_begins.cls ≠ "java/lang/invoke/VarHandle" ∧ (parseMethodDescriptor yX11_begins.desc).map (fun d => d.parameters.length) = some 0 := by decide +kernel
set_option maxRecDepth 20000 in
set_option maxHeartbeats 4000000 in
theorem k_X11_begins (l : Launch) (D : va_G) (cI cJ cZ cO : ClassId) (z : Nat → Nat)   (h_t_ : Nat) (h_fresh : Nat) (h_a : Nat) (h_kept : Nat) (h_buffer : Nat) (h_worthFrom : Nat) (h_cutsFrom : Nat) (h_endFrom : Nat) (h_changes : Nat) (h_waysFrom : Nat) (h_costAt : Nat) (h_places : Nat) (h_isCut : Nat) (h_written : Nat)  (v_keptMany : Int32) (v_thrown : Int32) (v_buffered : Int32) (v_size : Int32) (v_at : Int32) (v_behind : Int32) (v_kind : Int32) (v_wrong : Int32) (v_wrongAt : Int32) (v_errorAt : Int32) (v_number : Int64) (v_toCut : Int32) (v_toLeave : Int32) (v_writtenMany : Int32) (v_fresh : Nat → Int64) (w_fresh : Nat → Int64) (hF : F_X11_begins v_fresh = some w_fresh) : Mv l yX11_begins wsX11_begins (rmD 0) D (gq_ty cI cJ cZ cO) z [.ref h_t_] [(h_t_, .inr (11, [.ref h_a, .ref h_fresh, .ref h_kept, .int v_keptMany, .int v_thrown, .ref h_buffer, .int v_buffered, .int v_size, .int v_at, .int v_behind, .int v_kind, .int v_wrong, .int v_wrongAt, .int v_errorAt, .long v_number, .ref h_worthFrom, .ref h_cutsFrom, .ref h_endFrom, .ref h_changes, .ref h_waysFrom, .int v_toCut, .int v_toLeave, .ref h_costAt, .ref h_places, .ref h_isCut, .ref h_written, .int v_writtenMany])), (h_fresh, .inl (cJ, 499, .inr (.inl v_fresh)))] [(h_t_, .inr (11, [.ref h_a, .ref h_fresh, .ref h_kept, .int v_keptMany, .int v_thrown, .ref h_buffer, .int v_buffered, .int v_size, .int v_at, .int v_behind, .int v_kind, .int v_wrong, .int v_wrongAt, .int v_errorAt, .long v_number, .ref h_worthFrom, .ref h_cutsFrom, .ref h_endFrom, .ref h_changes, .ref h_waysFrom, .int v_toCut, .int v_toLeave, .ref h_costAt, .ref h_places, .ref h_isCut, .ref h_written, .int v_writtenMany])), (h_fresh, .inl (cJ, 499, .inr (.inl w_fresh)))] 0 0 := by
  refine Mv.of (cc := cX11_begins) (maxL := 2) (by decide) rfl (Nat.le_of_ble_eq_true rfl) ⟨Nat.le_refl 0, Nat.le_refl 0⟩ ?_
  intro p e s m args below meth c A hC ha
  have hin_X11 : ∀ w ∈ wsX110, w ∈ wsX11_begins := by decide +kernel
  have hw_13 : Cond.fieldLink RX11 13 (TX11 1).1 (TX11 1).2.1 (TX11 1).2.2.1 ∈ wsX11_begins := by decide +kernel
  obtain ⟨Q, hQ⟩ : ∃ Q, Q = gq_Qv below D A args s [(h_t_, .inr (11, [.ref h_a, .ref h_fresh, .ref h_kept, .int v_keptMany, .int v_thrown, .ref h_buffer, .int v_buffered, .int v_size, .int v_at, .int v_behind, .int v_kind, .int v_wrong, .int v_wrongAt, .int v_errorAt, .long v_number, .ref h_worthFrom, .ref h_cutsFrom, .ref h_endFrom, .ref h_changes, .ref h_waysFrom, .int v_toCut, .int v_toLeave, .ref h_costAt, .ref h_places, .ref h_isCut, .ref h_written, .int v_writtenMany])), (h_fresh, .inl (cJ, 499, .inr (.inl w_fresh)))] 0 0 := ⟨_, rfl⟩
  rw [← hQ]
  refine gq_loc [(0, .ref h_t_)] rfl ?_
  unfold F_X11_begins at hF
  refine gq_iconst hC (0 : Int32) dX11_begins_0 (by decide) ?_
  refine gq_istore_n hC [(1, .int (0 : Int32)), (0, .ref h_t_)] dX11_begins_1 rfl (by decide) rfl ?_
  have lp2 : ∀ (e_5 : (Nat → Int64)), Gx p l e (rmD 0) s m args below meth c D A 2 Q 0 0 22 [(0, .ref h_t_)] [] [(h_t_, .inr (11, [.ref h_a, .ref h_fresh, .ref h_kept, .int v_keptMany, .int v_thrown, .ref h_buffer, .int v_buffered, .int v_size, .int v_at, .int v_behind, .int v_kind, .int v_wrong, .int v_wrongAt, .int v_errorAt, .long v_number, .ref h_worthFrom, .ref h_cutsFrom, .ref h_endFrom, .ref h_changes, .ref h_waysFrom, .int v_toCut, .int v_toLeave, .ref h_costAt, .ref h_places, .ref h_isCut, .ref h_written, .int v_writtenMany])), (h_fresh, .inl (cJ, 499, .inr (.inl e_5)))] → ∀ (N : Nat) (l1_1 : Int32) (v_fresh_2 : Nat → Int64), wh (fun k q => S_X11_begins_2 k q.1 q.2) N (l1_1, v_fresh_2) = some e_5 → Gx p l e (rmD 0) s m args below meth c D A 2 Q 0 0 2 [(0, .ref h_t_), (1, .int l1_1)] [] [(h_t_, .inr (11, [.ref h_a, .ref h_fresh, .ref h_kept, .int v_keptMany, .int v_thrown, .ref h_buffer, .int v_buffered, .int v_size, .int v_at, .int v_behind, .int v_kind, .int v_wrong, .int v_wrongAt, .int v_errorAt, .long v_number, .ref h_worthFrom, .ref h_cutsFrom, .ref h_endFrom, .ref h_changes, .ref h_waysFrom, .int v_toCut, .int v_toLeave, .ref h_costAt, .ref h_places, .ref h_isCut, .ref h_written, .int v_writtenMany])), (h_fresh, .inl (cJ, 499, .inr (.inl v_fresh_2)))] := by
    intro e_5 hx0 N
    induction N with
    | zero => intro l1_1 v_fresh_2 hw; exact absurd hw (wh_0 _ _ _)
    | succ N ih =>
      intro l1_1 v_fresh_2 hw
      have hF : S_X11_begins_2  (wh (fun k q => S_X11_begins_2 k q.1 q.2) N) l1_1 v_fresh_2 = some e_5 := hw
      unfold S_X11_begins_2 at hF
      refine gq_iload_n hC 1 dX11_begins_2 rfl rfl ?_
      refine gq_sipush hC (499 : Int32) dX11_begins_3 (by decide) ?_
      refine gq_icmp_ge hC 22 dX11_begins_6 (by decide) (fun hc_4 => ?_) (fun hc_4 => ?_)
      · have hF := (if_pos hc_4).symm.trans hF
        refine gq_sub [(0, .ref h_t_)] [0] rfl ?_
        cases hF
        exact hx0
      · have hF := (if_neg hc_4).symm.trans hF
        refine gq_aload_n hC 0 dX11_begins_9 rfl rfl ?_
        refine gq_get hC (kf := 1) 0 hin_X11 rfl rfl (by decide) hw_13 rfl dX11_begins_10 ?_
        refine gq_iload_n hC 1 dX11_begins_13 rfl rfl ?_
        refine gq_lconst hC (0 : Int64) dX11_begins_14 (by decide) ?_
        obtain ⟨hi_3, hF⟩ := gi_e hF
        refine gq_last hC 1 1 [(h_t_, .inr (11, [.ref h_a, .ref h_fresh, .ref h_kept, .int v_keptMany, .int v_thrown, .ref h_buffer, .int v_buffered, .int v_size, .int v_at, .int v_behind, .int v_kind, .int v_wrong, .int v_wrongAt, .int v_errorAt, .long v_number, .ref h_worthFrom, .ref h_cutsFrom, .ref h_endFrom, .ref h_changes, .ref h_waysFrom, .int v_toCut, .int v_toLeave, .ref h_costAt, .ref h_places, .ref h_isCut, .ref h_written, .int v_writtenMany])), (h_fresh, .inl (cJ, 499, .inr (.inl (vp_updL v_fresh_2 l1_1.toNatClampNeg (0 : Int64)))))] rfl rfl hi_3 dX11_begins_15 rfl ?_
        refine gq_iinc hC 1 (l1_1 + (1 : Int32)) [(1, .int (l1_1 + (1 : Int32))), (0, .ref h_t_)] dX11_begins_16 rfl rfl (by decide) rfl ?_
        refine gq_goto hC 2 dX11_begins_19 (by decide) ?_
        refine gq_sub [(0, .ref h_t_), (1, .int (l1_1 + (1 : Int32)))] [1, 0] rfl ?_
        exact ih (l1_1 + (1 : Int32)) (vp_updL v_fresh_2 l1_1.toNatClampNeg (0 : Int64)) hF
  refine gq_sub [(0, .ref h_t_), (1, .int (0 : Int32))] [1, 0] rfl ?_
  obtain ⟨e_6, hw_, hF⟩ := ob1_e hF
  refine lp2  e_6 ?_ wF (0 : Int32) v_fresh hw_
  refine gq_aload_n hC 0 dX11_begins_22 rfl rfl ?_
  refine gq_get hC (kf := 1) 0 hin_X11 rfl rfl (by decide) hw_13 rfl dX11_begins_23 ?_
  refine gq_iconst hC (0 : Int32) dX11_begins_26 (by decide) ?_
  refine gq_ldc2 hC (60 : Int64) dX11_begins_27 (by decide +kernel) ?_
  obtain ⟨hi_7, hF⟩ := gi_e hF
  refine gq_last hC 1 1 [(h_t_, .inr (11, [.ref h_a, .ref h_fresh, .ref h_kept, .int v_keptMany, .int v_thrown, .ref h_buffer, .int v_buffered, .int v_size, .int v_at, .int v_behind, .int v_kind, .int v_wrong, .int v_wrongAt, .int v_errorAt, .long v_number, .ref h_worthFrom, .ref h_cutsFrom, .ref h_endFrom, .ref h_changes, .ref h_waysFrom, .int v_toCut, .int v_toLeave, .ref h_costAt, .ref h_places, .ref h_isCut, .ref h_written, .int v_writtenMany])), (h_fresh, .inl (cJ, 499, .inr (.inl (vp_updL e_6 (0 : Int32).toNatClampNeg (60 : Int64)))))] rfl rfl hi_7 dX11_begins_30 rfl ?_
  refine gq_aload_n hC 0 dX11_begins_31 rfl rfl ?_
  refine gq_get hC (kf := 1) 0 hin_X11 rfl rfl (by decide) hw_13 rfl dX11_begins_32 ?_
  refine gq_iconst hC (1 : Int32) dX11_begins_35 (by decide) ?_
  refine gq_ldc2 hC (600 : Int64) dX11_begins_36 (by decide +kernel) ?_
  obtain ⟨hi_8, hF⟩ := gi_e hF
  refine gq_last hC 1 1 [(h_t_, .inr (11, [.ref h_a, .ref h_fresh, .ref h_kept, .int v_keptMany, .int v_thrown, .ref h_buffer, .int v_buffered, .int v_size, .int v_at, .int v_behind, .int v_kind, .int v_wrong, .int v_wrongAt, .int v_errorAt, .long v_number, .ref h_worthFrom, .ref h_cutsFrom, .ref h_endFrom, .ref h_changes, .ref h_waysFrom, .int v_toCut, .int v_toLeave, .ref h_costAt, .ref h_places, .ref h_isCut, .ref h_written, .int v_writtenMany])), (h_fresh, .inl (cJ, 499, .inr (.inl (vp_updL (vp_updL e_6 (0 : Int32).toNatClampNeg (60 : Int64)) (1 : Int32).toNatClampNeg (600 : Int64)))))] rfl rfl hi_8 dX11_begins_39 rfl ?_
  refine gq_aload_n hC 0 dX11_begins_40 rfl rfl ?_
  refine gq_get hC (kf := 1) 0 hin_X11 rfl rfl (by decide) hw_13 rfl dX11_begins_41 ?_
  refine gq_iconst hC (2 : Int32) dX11_begins_44 (by decide) ?_
  refine gq_ldc2 hC (2 : Int64) dX11_begins_45 (by decide +kernel) ?_
  obtain ⟨hi_9, hF⟩ := gi_e hF
  refine gq_last hC 1 1 [(h_t_, .inr (11, [.ref h_a, .ref h_fresh, .ref h_kept, .int v_keptMany, .int v_thrown, .ref h_buffer, .int v_buffered, .int v_size, .int v_at, .int v_behind, .int v_kind, .int v_wrong, .int v_wrongAt, .int v_errorAt, .long v_number, .ref h_worthFrom, .ref h_cutsFrom, .ref h_endFrom, .ref h_changes, .ref h_waysFrom, .int v_toCut, .int v_toLeave, .ref h_costAt, .ref h_places, .ref h_isCut, .ref h_written, .int v_writtenMany])), (h_fresh, .inl (cJ, 499, .inr (.inl (vp_updL (vp_updL (vp_updL e_6 (0 : Int32).toNatClampNeg (60 : Int64)) (1 : Int32).toNatClampNeg (600 : Int64)) (2 : Int32).toNatClampNeg (2 : Int64)))))] rfl rfl hi_9 dX11_begins_48 rfl ?_
  refine gq_aload_n hC 0 dX11_begins_49 rfl rfl ?_
  refine gq_get hC (kf := 1) 0 hin_X11 rfl rfl (by decide) hw_13 rfl dX11_begins_50 ?_
  refine gq_iconst hC (3 : Int32) dX11_begins_53 (by decide) ?_
  refine gq_ldc2 hC (40 : Int64) dX11_begins_54 (by decide +kernel) ?_
  obtain ⟨hi_10, hF⟩ := gi_e hF
  refine gq_last hC 1 1 [(h_t_, .inr (11, [.ref h_a, .ref h_fresh, .ref h_kept, .int v_keptMany, .int v_thrown, .ref h_buffer, .int v_buffered, .int v_size, .int v_at, .int v_behind, .int v_kind, .int v_wrong, .int v_wrongAt, .int v_errorAt, .long v_number, .ref h_worthFrom, .ref h_cutsFrom, .ref h_endFrom, .ref h_changes, .ref h_waysFrom, .int v_toCut, .int v_toLeave, .ref h_costAt, .ref h_places, .ref h_isCut, .ref h_written, .int v_writtenMany])), (h_fresh, .inl (cJ, 499, .inr (.inl (vp_updL (vp_updL (vp_updL (vp_updL e_6 (0 : Int32).toNatClampNeg (60 : Int64)) (1 : Int32).toNatClampNeg (600 : Int64)) (2 : Int32).toNatClampNeg (2 : Int64)) (3 : Int32).toNatClampNeg (40 : Int64)))))] rfl rfl hi_10 dX11_begins_57 rfl ?_
  refine gq_aload_n hC 0 dX11_begins_58 rfl rfl ?_
  refine gq_get hC (kf := 1) 0 hin_X11 rfl rfl (by decide) hw_13 rfl dX11_begins_59 ?_
  refine gq_iconst hC (4 : Int32) dX11_begins_62 (by decide) ?_
  refine gq_ldc2 hC (5 : Int64) dX11_begins_63 (by decide +kernel) ?_
  obtain ⟨hi_11, hF⟩ := gi_e hF
  refine gq_last hC 1 1 [(h_t_, .inr (11, [.ref h_a, .ref h_fresh, .ref h_kept, .int v_keptMany, .int v_thrown, .ref h_buffer, .int v_buffered, .int v_size, .int v_at, .int v_behind, .int v_kind, .int v_wrong, .int v_wrongAt, .int v_errorAt, .long v_number, .ref h_worthFrom, .ref h_cutsFrom, .ref h_endFrom, .ref h_changes, .ref h_waysFrom, .int v_toCut, .int v_toLeave, .ref h_costAt, .ref h_places, .ref h_isCut, .ref h_written, .int v_writtenMany])), (h_fresh, .inl (cJ, 499, .inr (.inl (vp_updL (vp_updL (vp_updL (vp_updL (vp_updL e_6 (0 : Int32).toNatClampNeg (60 : Int64)) (1 : Int32).toNatClampNeg (600 : Int64)) (2 : Int32).toNatClampNeg (2 : Int64)) (3 : Int32).toNatClampNeg (40 : Int64)) (4 : Int32).toNatClampNeg (5 : Int64)))))] rfl rfl hi_11 dX11_begins_66 rfl ?_
  refine gq_aload_n hC 0 dX11_begins_67 rfl rfl ?_
  refine gq_get hC (kf := 1) 0 hin_X11 rfl rfl (by decide) hw_13 rfl dX11_begins_68 ?_
  refine gq_iconst hC (5 : Int32) dX11_begins_71 (by decide) ?_
  refine gq_ldc2 hC (30 : Int64) dX11_begins_72 (by decide +kernel) ?_
  obtain ⟨hi_12, hF⟩ := gi_e hF
  refine gq_last hC 1 1 [(h_t_, .inr (11, [.ref h_a, .ref h_fresh, .ref h_kept, .int v_keptMany, .int v_thrown, .ref h_buffer, .int v_buffered, .int v_size, .int v_at, .int v_behind, .int v_kind, .int v_wrong, .int v_wrongAt, .int v_errorAt, .long v_number, .ref h_worthFrom, .ref h_cutsFrom, .ref h_endFrom, .ref h_changes, .ref h_waysFrom, .int v_toCut, .int v_toLeave, .ref h_costAt, .ref h_places, .ref h_isCut, .ref h_written, .int v_writtenMany])), (h_fresh, .inl (cJ, 499, .inr (.inl (vp_updL (vp_updL (vp_updL (vp_updL (vp_updL (vp_updL e_6 (0 : Int32).toNatClampNeg (60 : Int64)) (1 : Int32).toNatClampNeg (600 : Int64)) (2 : Int32).toNatClampNeg (2 : Int64)) (3 : Int32).toNatClampNeg (40 : Int64)) (4 : Int32).toNatClampNeg (5 : Int64)) (5 : Int32).toNatClampNeg (30 : Int64)))))] rfl rfl hi_12 dX11_begins_75 rfl ?_
  cases hF
  rw [hQ]
  exact gq_vret hC dX11_begins_76
theorem hy_X11_see : yX11_see.cls = RX11 ∧ yX11_see.cls ≠ "java/lang/invoke/MethodHandle" ∧ yX11_see.cls ≠ "java/lang/invoke/VarHandle" ∧ (parseMethodDescriptor yX11_see.desc).map (fun d => d.parameters.length) = some 1 := by decide +kernel
set_option maxRecDepth 20000 in
set_option maxHeartbeats 4000000 in
theorem k_X11_see (l : Launch) (D : va_G) (cI cJ cZ cO : ClassId) (z : Nat → Nat)   (h_t_ : Nat) (h_buffer : Nat) (h_a : Nat) (h_fresh : Nat) (h_kept : Nat) (h_worthFrom : Nat) (h_cutsFrom : Nat) (h_endFrom : Nat) (h_changes : Nat) (h_waysFrom : Nat) (h_costAt : Nat) (h_places : Nat) (h_isCut : Nat) (h_written : Nat) (x1 : Int32) (v_keptMany : Int32) (v_thrown : Int32) (v_buffered : Int32) (v_size : Int32) (v_at : Int32) (v_behind : Int32) (v_kind : Int32) (v_wrong : Int32) (v_wrongAt : Int32) (v_errorAt : Int32) (v_number : Int64) (v_toCut : Int32) (v_toLeave : Int32) (v_writtenMany : Int32) (v_buffer : Nat → Int32) (r_ : Int32) (hF : F_X11_see x1 v_size v_buffer = some r_) : Mi l yX11_see wsX11_see (rmD 0) D (gq_ty cI cJ cZ cO) z [.ref h_t_, .int x1] [(h_t_, .inr (11, [.ref h_a, .ref h_fresh, .ref h_kept, .int v_keptMany, .int v_thrown, .ref h_buffer, .int v_buffered, .int v_size, .int v_at, .int v_behind, .int v_kind, .int v_wrong, .int v_wrongAt, .int v_errorAt, .long v_number, .ref h_worthFrom, .ref h_cutsFrom, .ref h_endFrom, .ref h_changes, .ref h_waysFrom, .int v_toCut, .int v_toLeave, .ref h_costAt, .ref h_places, .ref h_isCut, .ref h_written, .int v_writtenMany])), (h_buffer, .inl (cI, 900, .inl v_buffer))] r_ [(h_t_, .inr (11, [.ref h_a, .ref h_fresh, .ref h_kept, .int v_keptMany, .int v_thrown, .ref h_buffer, .int v_buffered, .int v_size, .int v_at, .int v_behind, .int v_kind, .int v_wrong, .int v_wrongAt, .int v_errorAt, .long v_number, .ref h_worthFrom, .ref h_cutsFrom, .ref h_endFrom, .ref h_changes, .ref h_waysFrom, .int v_toCut, .int v_toLeave, .ref h_costAt, .ref h_places, .ref h_isCut, .ref h_written, .int v_writtenMany])), (h_buffer, .inl (cI, 900, .inl v_buffer))] 0 0 := by
  refine Mi.of (cc := cX11_see) (maxL := 2) (by decide) rfl (Nat.le_of_ble_eq_true rfl) ⟨Nat.le_refl 0, Nat.le_refl 0⟩ ?_
  intro p e s m args below meth c A hC ha
  have hin_X11 : ∀ w ∈ wsX110, w ∈ wsX11_see := by decide +kernel
  have hw_19 : Cond.fieldLink RX11 19 (TX11 5).1 (TX11 5).2.1 (TX11 5).2.2.1 ∈ wsX11_see := by decide +kernel
  have hw_88 : Cond.fieldLink RX11 88 (TX11 7).1 (TX11 7).2.1 (TX11 7).2.2.1 ∈ wsX11_see := by decide +kernel
  obtain ⟨Q, hQ⟩ : ∃ Q, Q = gq_Qi below D A args s r_ [(h_t_, .inr (11, [.ref h_a, .ref h_fresh, .ref h_kept, .int v_keptMany, .int v_thrown, .ref h_buffer, .int v_buffered, .int v_size, .int v_at, .int v_behind, .int v_kind, .int v_wrong, .int v_wrongAt, .int v_errorAt, .long v_number, .ref h_worthFrom, .ref h_cutsFrom, .ref h_endFrom, .ref h_changes, .ref h_waysFrom, .int v_toCut, .int v_toLeave, .ref h_costAt, .ref h_places, .ref h_isCut, .ref h_written, .int v_writtenMany])), (h_buffer, .inl (cI, 900, .inl v_buffer))] 0 0 := ⟨_, rfl⟩
  rw [← hQ]
  refine gq_loc [(0, .ref h_t_), (1, .int x1)] rfl ?_
  unfold F_X11_see at hF
  refine gq_iload_n hC 1 dX11_see_0 rfl rfl ?_
  refine gq_aload_n hC 0 dX11_see_1 rfl rfl ?_
  refine gq_get hC (kf := 7) 0 hin_X11 rfl rfl (by decide) hw_88 rfl dX11_see_2 ?_
  refine gq_icmp_ge hC 17 dX11_see_5 (by decide) (fun hc_2 => ?_) (fun hc_2 => ?_)
  · have hF := (if_pos hc_2).symm.trans hF
    refine gq_iconst hC (-1 : Int32) dX11_see_17 (by decide) ?_
    cases hF
    rw [hQ]
    exact gq_iret hC rfl dX11_see_18
  · have hF := (if_neg hc_2).symm.trans hF
    refine gq_aload_n hC 0 dX11_see_8 rfl rfl ?_
    refine gq_get hC (kf := 5) 0 hin_X11 rfl rfl (by decide) hw_19 rfl dX11_see_9 ?_
    refine gq_iload_n hC 1 dX11_see_12 rfl rfl ?_
    obtain ⟨hi_1, hF⟩ := gi_e hF
    refine gq_iald hC 1 0 rfl rfl hi_1 dX11_see_13 ?_
    refine gq_goto hC 18 dX11_see_14 (by decide) ?_
    cases hF
    rw [hQ]
    exact gq_iret hC rfl dX11_see_18
theorem hy_X11_isLetter : yX11_isLetter.cls = RX11 ∧ yX11_isLetter.cls ≠ "java/lang/invoke/MethodHandle" ∧ yX11_isLetter.cls ≠ "java/lang/invoke/VarHandle" ∧ (parseMethodDescriptor yX11_isLetter.desc).map (fun d => d.parameters.length) = some 1 := by decide +kernel
set_option maxRecDepth 20000 in
set_option maxHeartbeats 4000000 in
theorem k_X11_isLetter (l : Launch) (D : va_G) (cI cJ cZ cO : ClassId) (z : Nat → Nat)    (x0 : Int32)  (r_ : Int32) (hF : F_X11_isLetter x0 = some r_) : Mi l yX11_isLetter wsX11_isLetter (rmD 1) D (gq_ty cI cJ cZ cO) z [.int x0] [] r_ [] 0 0 := by
  refine Mi.of (cc := cX11_isLetter) (maxL := 1) (by decide) rfl (Nat.le_of_ble_eq_true rfl) ⟨Nat.le_refl 0, Nat.le_refl 0⟩ ?_
  intro p e s m args below meth c A hC ha
  obtain ⟨Q, hQ⟩ : ∃ Q, Q = gq_Qi below D A args s r_ [] 0 0 := ⟨_, rfl⟩
  rw [← hQ]
  refine gq_loc [(0, .int x0)] rfl ?_
  unfold F_X11_isLetter at hF
  refine gq_iload_n hC 0 dX11_isLetter_0 rfl rfl ?_
  refine gq_i2l hC dX11_isLetter_1 ?_
  refine gq_ldc2 hC (97 : Int64) dX11_isLetter_2 (by decide +kernel) ?_
  refine gq_ldc2 hC (122 : Int64) dX11_isLetter_5 (by decide +kernel) ?_
  obtain ⟨r_1, hc_, hF⟩ := ob1_e hF
  refine gq_callSi hC [] [] [.long (x0.toInt64), .long (97 : Int64), .long (122 : Int64)] [] (k_X11_isIn l D cI cJ cZ cO z  (x0.toInt64) (97 : Int64) (122 : Int64) r_1 hc_) gX11_isLetter_X11_isIn rfl ⟨rfl, rfl⟩ hy_X11_isIn rfl ⟨Nat.le_of_ble_eq_true rfl, Nat.le_of_ble_eq_true rfl⟩ rfl rfl rfl (Nat.le_of_ble_eq_true rfl) rfl dX11_isLetter_8 rfl rfl ?_
  obtain ⟨hb_2, hF⟩ := gb_e hF
  cases hF
  rw [hQ]
  exact gq_iret hC (gb_n hb_2) dX11_isLetter_11
theorem hy_X11_isDigit : yX11_isDigit.cls = RX11 ∧ yX11_isDigit.cls ≠ "java/lang/invoke/MethodHandle" ∧ yX11_isDigit.cls ≠ "java/lang/invoke/VarHandle" ∧ (parseMethodDescriptor yX11_isDigit.desc).map (fun d => d.parameters.length) = some 1 := by decide +kernel
set_option maxRecDepth 20000 in
set_option maxHeartbeats 4000000 in
theorem k_X11_isDigit (l : Launch) (D : va_G) (cI cJ cZ cO : ClassId) (z : Nat → Nat)    (x0 : Int32)  (r_ : Int32) (hF : F_X11_isDigit x0 = some r_) : Mi l yX11_isDigit wsX11_isDigit (rmD 1) D (gq_ty cI cJ cZ cO) z [.int x0] [] r_ [] 0 0 := by
  refine Mi.of (cc := cX11_isDigit) (maxL := 1) (by decide) rfl (Nat.le_of_ble_eq_true rfl) ⟨Nat.le_refl 0, Nat.le_refl 0⟩ ?_
  intro p e s m args below meth c A hC ha
  obtain ⟨Q, hQ⟩ : ∃ Q, Q = gq_Qi below D A args s r_ [] 0 0 := ⟨_, rfl⟩
  rw [← hQ]
  refine gq_loc [(0, .int x0)] rfl ?_
  unfold F_X11_isDigit at hF
  refine gq_iload_n hC 0 dX11_isDigit_0 rfl rfl ?_
  refine gq_i2l hC dX11_isDigit_1 ?_
  refine gq_ldc2 hC (48 : Int64) dX11_isDigit_2 (by decide +kernel) ?_
  refine gq_ldc2 hC (57 : Int64) dX11_isDigit_5 (by decide +kernel) ?_
  obtain ⟨r_1, hc_, hF⟩ := ob1_e hF
  refine gq_callSi hC [] [] [.long (x0.toInt64), .long (48 : Int64), .long (57 : Int64)] [] (k_X11_isIn l D cI cJ cZ cO z  (x0.toInt64) (48 : Int64) (57 : Int64) r_1 hc_) gX11_isDigit_X11_isIn rfl ⟨rfl, rfl⟩ hy_X11_isIn rfl ⟨Nat.le_of_ble_eq_true rfl, Nat.le_of_ble_eq_true rfl⟩ rfl rfl rfl (Nat.le_of_ble_eq_true rfl) rfl dX11_isDigit_8 rfl rfl ?_
  obtain ⟨hb_2, hF⟩ := gb_e hF
  cases hF
  rw [hQ]
  exact gq_iret hC (gb_n hb_2) dX11_isDigit_11
theorem hy_X11_next : yX11_next.cls = RX11 ∧ yX11_next.cls ≠ "java/lang/invoke/MethodHandle" ∧ yX11_next.cls ≠ "java/lang/invoke/VarHandle" ∧ (parseMethodDescriptor yX11_next.desc).map (fun d => d.parameters.length) = some 0 := by decide +kernel
set_option maxRecDepth 20000 in
set_option maxHeartbeats 4000000 in
theorem k_X11_next (l : Launch) (D : va_G) (cI cJ cZ cO : ClassId) (z : Nat → Nat)   (h_t_ : Nat) (h_buffer : Nat) (h_a : Nat) (h_fresh : Nat) (h_kept : Nat) (h_worthFrom : Nat) (h_cutsFrom : Nat) (h_endFrom : Nat) (h_changes : Nat) (h_waysFrom : Nat) (h_costAt : Nat) (h_places : Nat) (h_isCut : Nat) (h_written : Nat)  (v_keptMany : Int32) (v_thrown : Int32) (v_buffered : Int32) (v_size : Int32) (v_at : Int32) (v_behind : Int32) (v_kind : Int32) (v_wrong : Int32) (v_wrongAt : Int32) (v_errorAt : Int32) (v_number : Int64) (v_toCut : Int32) (v_toLeave : Int32) (v_writtenMany : Int32) (v_buffer : Nat → Int32) (w_at : Int32) (w_behind : Int32) (w_kind : Int32) (w_number : Int64) (hF : F_X11_next v_size v_at v_behind v_kind v_number v_buffer = some (w_at, w_behind, w_kind, w_number)) : Mv l yX11_next wsX11_next (rmD 2) D (gq_ty cI cJ cZ cO) z [.ref h_t_] [(h_t_, .inr (11, [.ref h_a, .ref h_fresh, .ref h_kept, .int v_keptMany, .int v_thrown, .ref h_buffer, .int v_buffered, .int v_size, .int v_at, .int v_behind, .int v_kind, .int v_wrong, .int v_wrongAt, .int v_errorAt, .long v_number, .ref h_worthFrom, .ref h_cutsFrom, .ref h_endFrom, .ref h_changes, .ref h_waysFrom, .int v_toCut, .int v_toLeave, .ref h_costAt, .ref h_places, .ref h_isCut, .ref h_written, .int v_writtenMany])), (h_buffer, .inl (cI, 900, .inl v_buffer))] [(h_t_, .inr (11, [.ref h_a, .ref h_fresh, .ref h_kept, .int v_keptMany, .int v_thrown, .ref h_buffer, .int v_buffered, .int v_size, .int w_at, .int w_behind, .int w_kind, .int v_wrong, .int v_wrongAt, .int v_errorAt, .long w_number, .ref h_worthFrom, .ref h_cutsFrom, .ref h_endFrom, .ref h_changes, .ref h_waysFrom, .int v_toCut, .int v_toLeave, .ref h_costAt, .ref h_places, .ref h_isCut, .ref h_written, .int v_writtenMany])), (h_buffer, .inl (cI, 900, .inl v_buffer))] 0 0 := by
  refine Mv.of (cc := cX11_next) (maxL := 1) (by decide) rfl (Nat.le_of_ble_eq_true rfl) ⟨Nat.le_refl 0, Nat.le_refl 0⟩ ?_
  intro p e s m args below meth c A hC ha
  have hin_X11 : ∀ w ∈ wsX110, w ∈ wsX11_next := by decide +kernel
  have hw_88 : Cond.fieldLink RX11 88 (TX11 7).1 (TX11 7).2.1 (TX11 7).2.2.1 ∈ wsX11_next := by decide +kernel
  have hw_103 : Cond.fieldLink RX11 103 (TX11 9).1 (TX11 9).2.1 (TX11 9).2.2.1 ∈ wsX11_next := by decide +kernel
  have hw_106 : Cond.fieldLink RX11 106 (TX11 8).1 (TX11 8).2.1 (TX11 8).2.2.1 ∈ wsX11_next := by decide +kernel
  have hw_113 : Cond.fieldLink RX11 113 (TX11 10).1 (TX11 10).2.1 (TX11 10).2.2.1 ∈ wsX11_next := by decide +kernel
  have hw_123 : Cond.fieldLink RX11 123 (TX11 14).1 (TX11 14).2.1 (TX11 14).2.2.1 ∈ wsX11_next := by decide +kernel
  obtain ⟨Q, hQ⟩ : ∃ Q, Q = gq_Qv below D A args s [(h_t_, .inr (11, [.ref h_a, .ref h_fresh, .ref h_kept, .int v_keptMany, .int v_thrown, .ref h_buffer, .int v_buffered, .int v_size, .int w_at, .int w_behind, .int w_kind, .int v_wrong, .int v_wrongAt, .int v_errorAt, .long w_number, .ref h_worthFrom, .ref h_cutsFrom, .ref h_endFrom, .ref h_changes, .ref h_waysFrom, .int v_toCut, .int v_toLeave, .ref h_costAt, .ref h_places, .ref h_isCut, .ref h_written, .int v_writtenMany])), (h_buffer, .inl (cI, 900, .inl v_buffer))] 0 0 := ⟨_, rfl⟩
  rw [← hQ]
  refine gq_loc [(0, .ref h_t_)] rfl ?_
  unfold F_X11_next at hF
  refine gq_aload_n hC 0 dX11_next_0 rfl rfl ?_
  refine gq_aload_n hC 0 dX11_next_1 rfl rfl ?_
  refine gq_get hC (kf := 9) 0 hin_X11 rfl rfl (by decide) hw_103 rfl dX11_next_2 ?_
  refine gq_put1 hC (kf := 8) 0 [(h_t_, .inr (11, [.ref h_a, .ref h_fresh, .ref h_kept, .int v_keptMany, .int v_thrown, .ref h_buffer, .int v_buffered, .int v_size, .int v_behind, .int v_behind, .int v_kind, .int v_wrong, .int v_wrongAt, .int v_errorAt, .long v_number, .ref h_worthFrom, .ref h_cutsFrom, .ref h_endFrom, .ref h_changes, .ref h_waysFrom, .int v_toCut, .int v_toLeave, .ref h_costAt, .ref h_places, .ref h_isCut, .ref h_written, .int v_writtenMany])), (h_buffer, .inl (cI, 900, .inl v_buffer))] tyX11 tyX11_ok nmX11 hin_X11 rfl rfl (by decide) hw_106 rfl rfl rfl (Nat.le_of_ble_eq_true rfl) dX11_next_5 rfl ?_
  have lp8 : ∀ (v_behind_2 : Int32) (v_kind_3 : Int32) (v_number_4 : Int64), ∀ (e_7 : (Int32)), Gx p l e (rmD 2) s m args below meth c D A 1 Q 0 0 34 [(0, .ref h_t_)] [] [(h_t_, .inr (11, [.ref h_a, .ref h_fresh, .ref h_kept, .int v_keptMany, .int v_thrown, .ref h_buffer, .int v_buffered, .int v_size, .int e_7, .int v_behind_2, .int v_kind_3, .int v_wrong, .int v_wrongAt, .int v_errorAt, .long v_number_4, .ref h_worthFrom, .ref h_cutsFrom, .ref h_endFrom, .ref h_changes, .ref h_waysFrom, .int v_toCut, .int v_toLeave, .ref h_costAt, .ref h_places, .ref h_isCut, .ref h_written, .int v_writtenMany])), (h_buffer, .inl (cI, 900, .inl v_buffer))] → ∀ (N : Nat) (v_at_1 : Int32), wh (fun k q => S_X11_next_8 v_size v_behind_2 v_kind_3 v_number_4 v_buffer k q) N v_at_1 = some e_7 → Gx p l e (rmD 2) s m args below meth c D A 1 Q 0 0 8 [(0, .ref h_t_)] [] [(h_t_, .inr (11, [.ref h_a, .ref h_fresh, .ref h_kept, .int v_keptMany, .int v_thrown, .ref h_buffer, .int v_buffered, .int v_size, .int v_at_1, .int v_behind_2, .int v_kind_3, .int v_wrong, .int v_wrongAt, .int v_errorAt, .long v_number_4, .ref h_worthFrom, .ref h_cutsFrom, .ref h_endFrom, .ref h_changes, .ref h_waysFrom, .int v_toCut, .int v_toLeave, .ref h_costAt, .ref h_places, .ref h_isCut, .ref h_written, .int v_writtenMany])), (h_buffer, .inl (cI, 900, .inl v_buffer))] := by
    intro v_behind_2 v_kind_3 v_number_4 e_7 hx0 N
    induction N with
    | zero => intro v_at_1 hw; exact absurd hw (wh_0 _ _ _)
    | succ N ih =>
      intro v_at_1 hw
      have hF : S_X11_next_8 v_size v_behind_2 v_kind_3 v_number_4 v_buffer (wh (fun k q => S_X11_next_8 v_size v_behind_2 v_kind_3 v_number_4 v_buffer k q) N) v_at_1 = some e_7 := hw
      unfold S_X11_next_8 at hF
      refine gq_aload_n hC 0 dX11_next_8 rfl rfl ?_
      refine gq_aload_n hC 0 dX11_next_9 rfl rfl ?_
      refine gq_get hC (kf := 8) 0 hin_X11 rfl rfl (by decide) hw_106 rfl dX11_next_10 ?_
      obtain ⟨r_5, hc_, hF⟩ := ob1_e hF
      refine gq_callVi hC [0, 1] [(h_t_, .inr (11, [.ref h_a, .ref h_fresh, .ref h_kept, .int v_keptMany, .int v_thrown, .ref h_buffer, .int v_buffered, .int v_size, .int v_at_1, .int v_behind_2, .int v_kind_3, .int v_wrong, .int v_wrongAt, .int v_errorAt, .long v_number_4, .ref h_worthFrom, .ref h_cutsFrom, .ref h_endFrom, .ref h_changes, .ref h_waysFrom, .int v_toCut, .int v_toLeave, .ref h_costAt, .ref h_places, .ref h_isCut, .ref h_written, .int v_writtenMany])), (h_buffer, .inl (cI, 900, .inl v_buffer))] [.int v_at_1] [] (k_X11_see l D cI cJ cZ cO z h_t_ h_buffer h_a h_fresh h_kept h_worthFrom h_cutsFrom h_endFrom h_changes h_waysFrom h_costAt h_places h_isCut h_written v_at_1 v_keptMany v_thrown v_buffered v_size v_at_1 v_behind_2 v_kind_3 v_wrong v_wrongAt v_errorAt v_number_4 v_toCut v_toLeave v_writtenMany v_buffer r_5 hc_) gX11_next_X11_see rfl ⟨rfl, rfl⟩ hy_X11_see ⟨Nat.le_of_ble_eq_true rfl, Nat.le_of_ble_eq_true rfl⟩ rfl rfl rfl (q0 := 0) rfl rfl rfl (Nat.le_of_ble_eq_true rfl) rfl dX11_next_13 rfl rfl ?_
      refine gq_bipush hC (32 : Int32) dX11_next_16 (by decide) ?_
      refine gq_icmp_ne hC 34 dX11_next_18 (by decide) (fun hc_6 => ?_) (fun hc_6 => ?_)
      · have hF := (if_neg hc_6).symm.trans hF
        cases hF
        exact hx0
      · have hF := (if_pos hc_6).symm.trans hF
        refine gq_aload_n hC 0 dX11_next_21 rfl rfl ?_
        refine gq_dup hC dX11_next_22 rfl ?_
        refine gq_get hC (kf := 8) 0 hin_X11 rfl rfl (by decide) hw_106 rfl dX11_next_23 ?_
        refine gq_iconst hC (1 : Int32) dX11_next_26 (by decide) ?_
        refine gq_iadd hC dX11_next_27 ?_
        refine gq_put1 hC (kf := 8) 0 [(h_t_, .inr (11, [.ref h_a, .ref h_fresh, .ref h_kept, .int v_keptMany, .int v_thrown, .ref h_buffer, .int v_buffered, .int v_size, .int (v_at_1 + (1 : Int32)), .int v_behind_2, .int v_kind_3, .int v_wrong, .int v_wrongAt, .int v_errorAt, .long v_number_4, .ref h_worthFrom, .ref h_cutsFrom, .ref h_endFrom, .ref h_changes, .ref h_waysFrom, .int v_toCut, .int v_toLeave, .ref h_costAt, .ref h_places, .ref h_isCut, .ref h_written, .int v_writtenMany])), (h_buffer, .inl (cI, 900, .inl v_buffer))] tyX11 tyX11_ok nmX11 hin_X11 rfl rfl (by decide) hw_106 rfl rfl rfl (Nat.le_of_ble_eq_true rfl) dX11_next_28 rfl ?_
        refine gq_goto hC 8 dX11_next_31 (by decide) ?_
        exact ih (v_at_1 + (1 : Int32)) hF
  obtain ⟨e_8, hw_, hF⟩ := ob1_e hF
  refine lp8 v_behind v_kind v_number e_8 ?_ wF v_behind hw_
  refine gq_aload_n hC 0 dX11_next_34 rfl rfl ?_
  refine gq_aload_n hC 0 dX11_next_35 rfl rfl ?_
  refine gq_get hC (kf := 8) 0 hin_X11 rfl rfl (by decide) hw_106 rfl dX11_next_36 ?_
  refine gq_put1 hC (kf := 9) 0 [(h_t_, .inr (11, [.ref h_a, .ref h_fresh, .ref h_kept, .int v_keptMany, .int v_thrown, .ref h_buffer, .int v_buffered, .int v_size, .int e_8, .int e_8, .int v_kind, .int v_wrong, .int v_wrongAt, .int v_errorAt, .long v_number, .ref h_worthFrom, .ref h_cutsFrom, .ref h_endFrom, .ref h_changes, .ref h_waysFrom, .int v_toCut, .int v_toLeave, .ref h_costAt, .ref h_places, .ref h_isCut, .ref h_written, .int v_writtenMany])), (h_buffer, .inl (cI, 900, .inl v_buffer))] tyX11 tyX11_ok nmX11 hin_X11 rfl rfl (by decide) hw_103 rfl rfl rfl (Nat.le_of_ble_eq_true rfl) dX11_next_39 rfl ?_
  refine gq_aload_n hC 0 dX11_next_42 rfl rfl ?_
  refine gq_get hC (kf := 8) 0 hin_X11 rfl rfl (by decide) hw_106 rfl dX11_next_43 ?_
  refine gq_aload_n hC 0 dX11_next_46 rfl rfl ?_
  refine gq_get hC (kf := 7) 0 hin_X11 rfl rfl (by decide) hw_88 rfl dX11_next_47 ?_
  refine gq_icmp_lt hC 61 dX11_next_50 (by decide) (fun hc_39 => ?_) (fun hc_39 => ?_)
  · have hF := (if_pos hc_39).symm.trans hF
    refine gq_aload_n hC 0 dX11_next_61 rfl rfl ?_
    refine gq_aload_n hC 0 dX11_next_62 rfl rfl ?_
    refine gq_get hC (kf := 8) 0 hin_X11 rfl rfl (by decide) hw_106 rfl dX11_next_63 ?_
    obtain ⟨r_9, hc_, hF⟩ := ob1_e hF
    refine gq_callVi hC [0, 1] [(h_t_, .inr (11, [.ref h_a, .ref h_fresh, .ref h_kept, .int v_keptMany, .int v_thrown, .ref h_buffer, .int v_buffered, .int v_size, .int e_8, .int e_8, .int v_kind, .int v_wrong, .int v_wrongAt, .int v_errorAt, .long v_number, .ref h_worthFrom, .ref h_cutsFrom, .ref h_endFrom, .ref h_changes, .ref h_waysFrom, .int v_toCut, .int v_toLeave, .ref h_costAt, .ref h_places, .ref h_isCut, .ref h_written, .int v_writtenMany])), (h_buffer, .inl (cI, 900, .inl v_buffer))] [.int e_8] [] (k_X11_see l D cI cJ cZ cO z h_t_ h_buffer h_a h_fresh h_kept h_worthFrom h_cutsFrom h_endFrom h_changes h_waysFrom h_costAt h_places h_isCut h_written e_8 v_keptMany v_thrown v_buffered v_size e_8 e_8 v_kind v_wrong v_wrongAt v_errorAt v_number v_toCut v_toLeave v_writtenMany v_buffer r_9 hc_) gX11_next_X11_see rfl ⟨rfl, rfl⟩ hy_X11_see ⟨Nat.le_of_ble_eq_true rfl, Nat.le_of_ble_eq_true rfl⟩ rfl rfl rfl (q0 := 0) rfl rfl rfl (Nat.le_of_ble_eq_true rfl) rfl dX11_next_66 rfl rfl ?_
    obtain ⟨r_10, hc_, hF⟩ := ob1_e hF
    refine gq_callSi hC [] [(h_t_, .inr (11, [.ref h_a, .ref h_fresh, .ref h_kept, .int v_keptMany, .int v_thrown, .ref h_buffer, .int v_buffered, .int v_size, .int e_8, .int e_8, .int v_kind, .int v_wrong, .int v_wrongAt, .int v_errorAt, .long v_number, .ref h_worthFrom, .ref h_cutsFrom, .ref h_endFrom, .ref h_changes, .ref h_waysFrom, .int v_toCut, .int v_toLeave, .ref h_costAt, .ref h_places, .ref h_isCut, .ref h_written, .int v_writtenMany])), (h_buffer, .inl (cI, 900, .inl v_buffer))] [.int r_9] [] (k_X11_isLetter l D cI cJ cZ cO z  r_9 r_10 hc_) gX11_next_X11_isLetter rfl ⟨rfl, rfl⟩ hy_X11_isLetter rfl ⟨Nat.le_of_ble_eq_true rfl, Nat.le_of_ble_eq_true rfl⟩ rfl rfl rfl (Nat.le_of_ble_eq_true rfl) rfl dX11_next_69 rfl rfl ?_
    refine gq_if_eq hC 110 dX11_next_72 (by decide) (fun hc_38 => ?_) (fun hc_38 => ?_)
    · have hF := (if_pos hc_38).symm.trans hF
      refine gq_aload_n hC 0 dX11_next_110 rfl rfl ?_
      refine gq_aload_n hC 0 dX11_next_111 rfl rfl ?_
      refine gq_get hC (kf := 8) 0 hin_X11 rfl rfl (by decide) hw_106 rfl dX11_next_112 ?_
      obtain ⟨r_11, hc_, hF⟩ := ob1_e hF
      refine gq_callVi hC [0, 1] [(h_t_, .inr (11, [.ref h_a, .ref h_fresh, .ref h_kept, .int v_keptMany, .int v_thrown, .ref h_buffer, .int v_buffered, .int v_size, .int e_8, .int e_8, .int v_kind, .int v_wrong, .int v_wrongAt, .int v_errorAt, .long v_number, .ref h_worthFrom, .ref h_cutsFrom, .ref h_endFrom, .ref h_changes, .ref h_waysFrom, .int v_toCut, .int v_toLeave, .ref h_costAt, .ref h_places, .ref h_isCut, .ref h_written, .int v_writtenMany])), (h_buffer, .inl (cI, 900, .inl v_buffer))] [.int e_8] [] (k_X11_see l D cI cJ cZ cO z h_t_ h_buffer h_a h_fresh h_kept h_worthFrom h_cutsFrom h_endFrom h_changes h_waysFrom h_costAt h_places h_isCut h_written e_8 v_keptMany v_thrown v_buffered v_size e_8 e_8 v_kind v_wrong v_wrongAt v_errorAt v_number v_toCut v_toLeave v_writtenMany v_buffer r_11 hc_) gX11_next_X11_see rfl ⟨rfl, rfl⟩ hy_X11_see ⟨Nat.le_of_ble_eq_true rfl, Nat.le_of_ble_eq_true rfl⟩ rfl rfl rfl (q0 := 0) rfl rfl rfl (Nat.le_of_ble_eq_true rfl) rfl dX11_next_115 rfl rfl ?_
      obtain ⟨r_12, hc_, hF⟩ := ob1_e hF
      refine gq_callSi hC [] [(h_t_, .inr (11, [.ref h_a, .ref h_fresh, .ref h_kept, .int v_keptMany, .int v_thrown, .ref h_buffer, .int v_buffered, .int v_size, .int e_8, .int e_8, .int v_kind, .int v_wrong, .int v_wrongAt, .int v_errorAt, .long v_number, .ref h_worthFrom, .ref h_cutsFrom, .ref h_endFrom, .ref h_changes, .ref h_waysFrom, .int v_toCut, .int v_toLeave, .ref h_costAt, .ref h_places, .ref h_isCut, .ref h_written, .int v_writtenMany])), (h_buffer, .inl (cI, 900, .inl v_buffer))] [.int r_11] [] (k_X11_isDigit l D cI cJ cZ cO z  r_11 r_12 hc_) gX11_next_X11_isDigit rfl ⟨rfl, rfl⟩ hy_X11_isDigit rfl ⟨Nat.le_of_ble_eq_true rfl, Nat.le_of_ble_eq_true rfl⟩ rfl rfl rfl (Nat.le_of_ble_eq_true rfl) rfl dX11_next_118 rfl rfl ?_
      refine gq_if_eq hC 201 dX11_next_121 (by decide) (fun hc_28 => ?_) (fun hc_28 => ?_)
      · have hF := (if_pos hc_28).symm.trans hF
        refine gq_aload_n hC 0 dX11_next_201 rfl rfl ?_
        refine gq_dup hC dX11_next_202 rfl ?_
        refine gq_get hC (kf := 9) 0 hin_X11 rfl rfl (by decide) hw_103 rfl dX11_next_203 ?_
        refine gq_iconst hC (1 : Int32) dX11_next_206 (by decide) ?_
        refine gq_iadd hC dX11_next_207 ?_
        refine gq_put1 hC (kf := 9) 0 [(h_t_, .inr (11, [.ref h_a, .ref h_fresh, .ref h_kept, .int v_keptMany, .int v_thrown, .ref h_buffer, .int v_buffered, .int v_size, .int e_8, .int (e_8 + (1 : Int32)), .int v_kind, .int v_wrong, .int v_wrongAt, .int v_errorAt, .long v_number, .ref h_worthFrom, .ref h_cutsFrom, .ref h_endFrom, .ref h_changes, .ref h_waysFrom, .int v_toCut, .int v_toLeave, .ref h_costAt, .ref h_places, .ref h_isCut, .ref h_written, .int v_writtenMany])), (h_buffer, .inl (cI, 900, .inl v_buffer))] tyX11 tyX11_ok nmX11 hin_X11 rfl rfl (by decide) hw_103 rfl rfl rfl (Nat.le_of_ble_eq_true rfl) dX11_next_208 rfl ?_
        refine gq_aload_n hC 0 dX11_next_211 rfl rfl ?_
        refine gq_iconst hC (2 : Int32) dX11_next_212 (by decide) ?_
        refine gq_put1 hC (kf := 10) 0 [(h_t_, .inr (11, [.ref h_a, .ref h_fresh, .ref h_kept, .int v_keptMany, .int v_thrown, .ref h_buffer, .int v_buffered, .int v_size, .int e_8, .int (e_8 + (1 : Int32)), .int (2 : Int32), .int v_wrong, .int v_wrongAt, .int v_errorAt, .long v_number, .ref h_worthFrom, .ref h_cutsFrom, .ref h_endFrom, .ref h_changes, .ref h_waysFrom, .int v_toCut, .int v_toLeave, .ref h_costAt, .ref h_places, .ref h_isCut, .ref h_written, .int v_writtenMany])), (h_buffer, .inl (cI, 900, .inl v_buffer))] tyX11 tyX11_ok nmX11 hin_X11 rfl rfl (by decide) hw_113 rfl rfl rfl (Nat.le_of_ble_eq_true rfl) dX11_next_213 rfl ?_
        cases hF
        rw [hQ]
        exact gq_vret hC dX11_next_216
      · have hF := (if_neg hc_28).symm.trans hF
        refine gq_aload_n hC 0 dX11_next_124 rfl rfl ?_
        refine gq_lconst hC (0 : Int64) dX11_next_125 (by decide) ?_
        refine gq_put1 hC (kf := 14) 0 [(h_t_, .inr (11, [.ref h_a, .ref h_fresh, .ref h_kept, .int v_keptMany, .int v_thrown, .ref h_buffer, .int v_buffered, .int v_size, .int e_8, .int e_8, .int v_kind, .int v_wrong, .int v_wrongAt, .int v_errorAt, .long (0 : Int64), .ref h_worthFrom, .ref h_cutsFrom, .ref h_endFrom, .ref h_changes, .ref h_waysFrom, .int v_toCut, .int v_toLeave, .ref h_costAt, .ref h_places, .ref h_isCut, .ref h_written, .int v_writtenMany])), (h_buffer, .inl (cI, 900, .inl v_buffer))] tyX11 tyX11_ok nmX11 hin_X11 rfl rfl (by decide) hw_123 rfl rfl rfl (Nat.le_of_ble_eq_true rfl) dX11_next_126 rfl ?_
        have lp129 : ∀ (v_at_13 : Int32) (v_kind_15 : Int32), ∀ (e_24 : (Int32)) (e_25 : (Int64)), Gx p l e (rmD 2) s m args below meth c D A 1 Q 0 0 193 [(0, .ref h_t_)] [] [(h_t_, .inr (11, [.ref h_a, .ref h_fresh, .ref h_kept, .int v_keptMany, .int v_thrown, .ref h_buffer, .int v_buffered, .int v_size, .int v_at_13, .int e_24, .int v_kind_15, .int v_wrong, .int v_wrongAt, .int v_errorAt, .long e_25, .ref h_worthFrom, .ref h_cutsFrom, .ref h_endFrom, .ref h_changes, .ref h_waysFrom, .int v_toCut, .int v_toLeave, .ref h_costAt, .ref h_places, .ref h_isCut, .ref h_written, .int v_writtenMany])), (h_buffer, .inl (cI, 900, .inl v_buffer))] → ∀ (N : Nat) (v_behind_14 : Int32) (v_number_16 : Int64), wh (fun k q => S_X11_next_129 v_size v_at_13 v_kind_15 v_buffer k q.1 q.2) N (v_behind_14, v_number_16) = some (e_24, e_25) → Gx p l e (rmD 2) s m args below meth c D A 1 Q 0 0 129 [(0, .ref h_t_)] [] [(h_t_, .inr (11, [.ref h_a, .ref h_fresh, .ref h_kept, .int v_keptMany, .int v_thrown, .ref h_buffer, .int v_buffered, .int v_size, .int v_at_13, .int v_behind_14, .int v_kind_15, .int v_wrong, .int v_wrongAt, .int v_errorAt, .long v_number_16, .ref h_worthFrom, .ref h_cutsFrom, .ref h_endFrom, .ref h_changes, .ref h_waysFrom, .int v_toCut, .int v_toLeave, .ref h_costAt, .ref h_places, .ref h_isCut, .ref h_written, .int v_writtenMany])), (h_buffer, .inl (cI, 900, .inl v_buffer))] := by
          intro v_at_13 v_kind_15 e_24 e_25 hx0 N
          induction N with
          | zero => intro v_behind_14 v_number_16 hw; exact absurd hw (wh_0 _ _ _)
          | succ N ih =>
            have jb180 : ∀ (v_behind_17 : Int32) (v_number_18 : Int64), F_X11_next_b180 (wh (fun k q => S_X11_next_129 v_size v_at_13 v_kind_15 v_buffer k q.1 q.2) N) v_size v_at_13 v_behind_17 v_kind_15 v_number_18 v_buffer = some (e_24, e_25) → Gx p l e (rmD 2) s m args below meth c D A 1 Q 0 0 180 [(0, .ref h_t_)] [] [(h_t_, .inr (11, [.ref h_a, .ref h_fresh, .ref h_kept, .int v_keptMany, .int v_thrown, .ref h_buffer, .int v_buffered, .int v_size, .int v_at_13, .int v_behind_17, .int v_kind_15, .int v_wrong, .int v_wrongAt, .int v_errorAt, .long v_number_18, .ref h_worthFrom, .ref h_cutsFrom, .ref h_endFrom, .ref h_changes, .ref h_waysFrom, .int v_toCut, .int v_toLeave, .ref h_costAt, .ref h_places, .ref h_isCut, .ref h_written, .int v_writtenMany])), (h_buffer, .inl (cI, 900, .inl v_buffer))] := by
              intro v_behind_17 v_number_18 hF
              unfold F_X11_next_b180 at hF
              refine gq_aload_n hC 0 dX11_next_180 rfl rfl ?_
              refine gq_dup hC dX11_next_181 rfl ?_
              refine gq_get hC (kf := 9) 0 hin_X11 rfl rfl (by decide) hw_103 rfl dX11_next_182 ?_
              refine gq_iconst hC (1 : Int32) dX11_next_185 (by decide) ?_
              refine gq_iadd hC dX11_next_186 ?_
              refine gq_put1 hC (kf := 9) 0 [(h_t_, .inr (11, [.ref h_a, .ref h_fresh, .ref h_kept, .int v_keptMany, .int v_thrown, .ref h_buffer, .int v_buffered, .int v_size, .int v_at_13, .int (v_behind_17 + (1 : Int32)), .int v_kind_15, .int v_wrong, .int v_wrongAt, .int v_errorAt, .long v_number_18, .ref h_worthFrom, .ref h_cutsFrom, .ref h_endFrom, .ref h_changes, .ref h_waysFrom, .int v_toCut, .int v_toLeave, .ref h_costAt, .ref h_places, .ref h_isCut, .ref h_written, .int v_writtenMany])), (h_buffer, .inl (cI, 900, .inl v_buffer))] tyX11 tyX11_ok nmX11 hin_X11 rfl rfl (by decide) hw_103 rfl rfl rfl (Nat.le_of_ble_eq_true rfl) dX11_next_187 rfl ?_
              refine gq_goto hC 129 dX11_next_190 (by decide) ?_
              exact ih (v_behind_17 + (1 : Int32)) v_number_18 hF
            intro v_behind_14 v_number_16 hw
            have hF : S_X11_next_129 v_size v_at_13 v_kind_15 v_buffer (wh (fun k q => S_X11_next_129 v_size v_at_13 v_kind_15 v_buffer k q.1 q.2) N) v_behind_14 v_number_16 = some (e_24, e_25) := hw
            unfold S_X11_next_129 at hF
            refine gq_aload_n hC 0 dX11_next_129 rfl rfl ?_
            refine gq_aload_n hC 0 dX11_next_130 rfl rfl ?_
            refine gq_get hC (kf := 9) 0 hin_X11 rfl rfl (by decide) hw_103 rfl dX11_next_131 ?_
            obtain ⟨r_19, hc_, hF⟩ := ob1_e hF
            refine gq_callVi hC [0, 1] [(h_t_, .inr (11, [.ref h_a, .ref h_fresh, .ref h_kept, .int v_keptMany, .int v_thrown, .ref h_buffer, .int v_buffered, .int v_size, .int v_at_13, .int v_behind_14, .int v_kind_15, .int v_wrong, .int v_wrongAt, .int v_errorAt, .long v_number_16, .ref h_worthFrom, .ref h_cutsFrom, .ref h_endFrom, .ref h_changes, .ref h_waysFrom, .int v_toCut, .int v_toLeave, .ref h_costAt, .ref h_places, .ref h_isCut, .ref h_written, .int v_writtenMany])), (h_buffer, .inl (cI, 900, .inl v_buffer))] [.int v_behind_14] [] (k_X11_see l D cI cJ cZ cO z h_t_ h_buffer h_a h_fresh h_kept h_worthFrom h_cutsFrom h_endFrom h_changes h_waysFrom h_costAt h_places h_isCut h_written v_behind_14 v_keptMany v_thrown v_buffered v_size v_at_13 v_behind_14 v_kind_15 v_wrong v_wrongAt v_errorAt v_number_16 v_toCut v_toLeave v_writtenMany v_buffer r_19 hc_) gX11_next_X11_see rfl ⟨rfl, rfl⟩ hy_X11_see ⟨Nat.le_of_ble_eq_true rfl, Nat.le_of_ble_eq_true rfl⟩ rfl rfl rfl (q0 := 0) rfl rfl rfl (Nat.le_of_ble_eq_true rfl) rfl dX11_next_134 rfl rfl ?_
            obtain ⟨r_20, hc_, hF⟩ := ob1_e hF
            refine gq_callSi hC [] [(h_t_, .inr (11, [.ref h_a, .ref h_fresh, .ref h_kept, .int v_keptMany, .int v_thrown, .ref h_buffer, .int v_buffered, .int v_size, .int v_at_13, .int v_behind_14, .int v_kind_15, .int v_wrong, .int v_wrongAt, .int v_errorAt, .long v_number_16, .ref h_worthFrom, .ref h_cutsFrom, .ref h_endFrom, .ref h_changes, .ref h_waysFrom, .int v_toCut, .int v_toLeave, .ref h_costAt, .ref h_places, .ref h_isCut, .ref h_written, .int v_writtenMany])), (h_buffer, .inl (cI, 900, .inl v_buffer))] [.int r_19] [] (k_X11_isDigit l D cI cJ cZ cO z  r_19 r_20 hc_) gX11_next_X11_isDigit rfl ⟨rfl, rfl⟩ hy_X11_isDigit rfl ⟨Nat.le_of_ble_eq_true rfl, Nat.le_of_ble_eq_true rfl⟩ rfl rfl rfl (Nat.le_of_ble_eq_true rfl) rfl dX11_next_137 rfl rfl ?_
            refine gq_if_eq hC 193 dX11_next_140 (by decide) (fun hc_23 => ?_) (fun hc_23 => ?_)
            · have hF := (if_pos hc_23).symm.trans hF
              cases hF
              exact hx0
            · have hF := (if_neg hc_23).symm.trans hF
              refine gq_aload_n hC 0 dX11_next_143 rfl rfl ?_
              refine gq_get hC (kf := 14) 0 hin_X11 rfl rfl (by decide) hw_123 rfl dX11_next_144 ?_
              refine gq_ldc2 hC (100000 : Int64) dX11_next_147 (by decide +kernel) ?_
              refine gq_lcmp hC dX11_next_150 ?_
              refine gq_if_ge hC 180 dX11_next_151 (by decide) (fun hc_22 => ?_) (fun hc_22 => ?_)
              · have hF := (if_pos hc_22).symm.trans hF
                exact jb180 v_behind_14 v_number_16 hF
              · have hF := (if_neg hc_22).symm.trans hF
                refine gq_aload_n hC 0 dX11_next_154 rfl rfl ?_
                refine gq_ldc2 hC (10 : Int64) dX11_next_155 (by decide +kernel) ?_
                refine gq_aload_n hC 0 dX11_next_158 rfl rfl ?_
                refine gq_get hC (kf := 14) 0 hin_X11 rfl rfl (by decide) hw_123 rfl dX11_next_159 ?_
                refine gq_lmul hC dX11_next_162 ?_
                refine gq_aload_n hC 0 dX11_next_163 rfl rfl ?_
                refine gq_aload_n hC 0 dX11_next_164 rfl rfl ?_
                refine gq_get hC (kf := 9) 0 hin_X11 rfl rfl (by decide) hw_103 rfl dX11_next_165 ?_
                obtain ⟨r_21, hc_, hF⟩ := ob1_e hF
                refine gq_callVi hC [0, 1] [(h_t_, .inr (11, [.ref h_a, .ref h_fresh, .ref h_kept, .int v_keptMany, .int v_thrown, .ref h_buffer, .int v_buffered, .int v_size, .int v_at_13, .int v_behind_14, .int v_kind_15, .int v_wrong, .int v_wrongAt, .int v_errorAt, .long v_number_16, .ref h_worthFrom, .ref h_cutsFrom, .ref h_endFrom, .ref h_changes, .ref h_waysFrom, .int v_toCut, .int v_toLeave, .ref h_costAt, .ref h_places, .ref h_isCut, .ref h_written, .int v_writtenMany])), (h_buffer, .inl (cI, 900, .inl v_buffer))] [.int v_behind_14] [.long ((10 : Int64) * v_number_16), .ref h_t_] (k_X11_see l D cI cJ cZ cO z h_t_ h_buffer h_a h_fresh h_kept h_worthFrom h_cutsFrom h_endFrom h_changes h_waysFrom h_costAt h_places h_isCut h_written v_behind_14 v_keptMany v_thrown v_buffered v_size v_at_13 v_behind_14 v_kind_15 v_wrong v_wrongAt v_errorAt v_number_16 v_toCut v_toLeave v_writtenMany v_buffer r_21 hc_) gX11_next_X11_see rfl ⟨rfl, rfl⟩ hy_X11_see ⟨Nat.le_of_ble_eq_true rfl, Nat.le_of_ble_eq_true rfl⟩ rfl rfl rfl (q0 := 0) rfl rfl rfl (Nat.le_of_ble_eq_true rfl) rfl dX11_next_168 rfl rfl ?_
                refine gq_i2l hC dX11_next_171 ?_
                refine gq_ladd hC dX11_next_172 ?_
                refine gq_ldc2 hC (48 : Int64) dX11_next_173 (by decide +kernel) ?_
                refine gq_lsub hC dX11_next_176 ?_
                refine gq_put1 hC (kf := 14) 0 [(h_t_, .inr (11, [.ref h_a, .ref h_fresh, .ref h_kept, .int v_keptMany, .int v_thrown, .ref h_buffer, .int v_buffered, .int v_size, .int v_at_13, .int v_behind_14, .int v_kind_15, .int v_wrong, .int v_wrongAt, .int v_errorAt, .long ((((10 : Int64) * v_number_16) + (r_21.toInt64)) - (48 : Int64)), .ref h_worthFrom, .ref h_cutsFrom, .ref h_endFrom, .ref h_changes, .ref h_waysFrom, .int v_toCut, .int v_toLeave, .ref h_costAt, .ref h_places, .ref h_isCut, .ref h_written, .int v_writtenMany])), (h_buffer, .inl (cI, 900, .inl v_buffer))] tyX11 tyX11_ok nmX11 hin_X11 rfl rfl (by decide) hw_123 rfl rfl rfl (Nat.le_of_ble_eq_true rfl) dX11_next_177 rfl ?_
                exact jb180 v_behind_14 ((((10 : Int64) * v_number_16) + (r_21.toInt64)) - (48 : Int64)) hF
        obtain ⟨e_26, e_27, hw_, hF⟩ := ob2_e hF
        refine lp129 e_8 v_kind e_26 e_27 ?_ wF e_8 (0 : Int64) hw_
        refine gq_aload_n hC 0 dX11_next_193 rfl rfl ?_
        refine gq_iconst hC (1 : Int32) dX11_next_194 (by decide) ?_
        refine gq_put1 hC (kf := 10) 0 [(h_t_, .inr (11, [.ref h_a, .ref h_fresh, .ref h_kept, .int v_keptMany, .int v_thrown, .ref h_buffer, .int v_buffered, .int v_size, .int e_8, .int e_26, .int (1 : Int32), .int v_wrong, .int v_wrongAt, .int v_errorAt, .long e_27, .ref h_worthFrom, .ref h_cutsFrom, .ref h_endFrom, .ref h_changes, .ref h_waysFrom, .int v_toCut, .int v_toLeave, .ref h_costAt, .ref h_places, .ref h_isCut, .ref h_written, .int v_writtenMany])), (h_buffer, .inl (cI, 900, .inl v_buffer))] tyX11 tyX11_ok nmX11 hin_X11 rfl rfl (by decide) hw_113 rfl rfl rfl (Nat.le_of_ble_eq_true rfl) dX11_next_195 rfl ?_
        refine gq_goto hC 216 dX11_next_198 (by decide) ?_
        cases hF
        rw [hQ]
        exact gq_vret hC dX11_next_216
    · have hF := (if_neg hc_38).symm.trans hF
      have lp75 : ∀ (v_at_29 : Int32) (v_kind_31 : Int32) (v_number_32 : Int64), ∀ (e_36 : (Int32)), Gx p l e (rmD 2) s m args below meth c D A 1 Q 0 0 102 [(0, .ref h_t_)] [] [(h_t_, .inr (11, [.ref h_a, .ref h_fresh, .ref h_kept, .int v_keptMany, .int v_thrown, .ref h_buffer, .int v_buffered, .int v_size, .int v_at_29, .int e_36, .int v_kind_31, .int v_wrong, .int v_wrongAt, .int v_errorAt, .long v_number_32, .ref h_worthFrom, .ref h_cutsFrom, .ref h_endFrom, .ref h_changes, .ref h_waysFrom, .int v_toCut, .int v_toLeave, .ref h_costAt, .ref h_places, .ref h_isCut, .ref h_written, .int v_writtenMany])), (h_buffer, .inl (cI, 900, .inl v_buffer))] → ∀ (N : Nat) (v_behind_30 : Int32), wh (fun k q => S_X11_next_75 v_size v_at_29 v_kind_31 v_number_32 v_buffer k q) N v_behind_30 = some e_36 → Gx p l e (rmD 2) s m args below meth c D A 1 Q 0 0 75 [(0, .ref h_t_)] [] [(h_t_, .inr (11, [.ref h_a, .ref h_fresh, .ref h_kept, .int v_keptMany, .int v_thrown, .ref h_buffer, .int v_buffered, .int v_size, .int v_at_29, .int v_behind_30, .int v_kind_31, .int v_wrong, .int v_wrongAt, .int v_errorAt, .long v_number_32, .ref h_worthFrom, .ref h_cutsFrom, .ref h_endFrom, .ref h_changes, .ref h_waysFrom, .int v_toCut, .int v_toLeave, .ref h_costAt, .ref h_places, .ref h_isCut, .ref h_written, .int v_writtenMany])), (h_buffer, .inl (cI, 900, .inl v_buffer))] := by
        intro v_at_29 v_kind_31 v_number_32 e_36 hx0 N
        induction N with
        | zero => intro v_behind_30 hw; exact absurd hw (wh_0 _ _ _)
        | succ N ih =>
          intro v_behind_30 hw
          have hF : S_X11_next_75 v_size v_at_29 v_kind_31 v_number_32 v_buffer (wh (fun k q => S_X11_next_75 v_size v_at_29 v_kind_31 v_number_32 v_buffer k q) N) v_behind_30 = some e_36 := hw
          unfold S_X11_next_75 at hF
          refine gq_aload_n hC 0 dX11_next_75 rfl rfl ?_
          refine gq_aload_n hC 0 dX11_next_76 rfl rfl ?_
          refine gq_get hC (kf := 9) 0 hin_X11 rfl rfl (by decide) hw_103 rfl dX11_next_77 ?_
          obtain ⟨r_33, hc_, hF⟩ := ob1_e hF
          refine gq_callVi hC [0, 1] [(h_t_, .inr (11, [.ref h_a, .ref h_fresh, .ref h_kept, .int v_keptMany, .int v_thrown, .ref h_buffer, .int v_buffered, .int v_size, .int v_at_29, .int v_behind_30, .int v_kind_31, .int v_wrong, .int v_wrongAt, .int v_errorAt, .long v_number_32, .ref h_worthFrom, .ref h_cutsFrom, .ref h_endFrom, .ref h_changes, .ref h_waysFrom, .int v_toCut, .int v_toLeave, .ref h_costAt, .ref h_places, .ref h_isCut, .ref h_written, .int v_writtenMany])), (h_buffer, .inl (cI, 900, .inl v_buffer))] [.int v_behind_30] [] (k_X11_see l D cI cJ cZ cO z h_t_ h_buffer h_a h_fresh h_kept h_worthFrom h_cutsFrom h_endFrom h_changes h_waysFrom h_costAt h_places h_isCut h_written v_behind_30 v_keptMany v_thrown v_buffered v_size v_at_29 v_behind_30 v_kind_31 v_wrong v_wrongAt v_errorAt v_number_32 v_toCut v_toLeave v_writtenMany v_buffer r_33 hc_) gX11_next_X11_see rfl ⟨rfl, rfl⟩ hy_X11_see ⟨Nat.le_of_ble_eq_true rfl, Nat.le_of_ble_eq_true rfl⟩ rfl rfl rfl (q0 := 0) rfl rfl rfl (Nat.le_of_ble_eq_true rfl) rfl dX11_next_80 rfl rfl ?_
          obtain ⟨r_34, hc_, hF⟩ := ob1_e hF
          refine gq_callSi hC [] [(h_t_, .inr (11, [.ref h_a, .ref h_fresh, .ref h_kept, .int v_keptMany, .int v_thrown, .ref h_buffer, .int v_buffered, .int v_size, .int v_at_29, .int v_behind_30, .int v_kind_31, .int v_wrong, .int v_wrongAt, .int v_errorAt, .long v_number_32, .ref h_worthFrom, .ref h_cutsFrom, .ref h_endFrom, .ref h_changes, .ref h_waysFrom, .int v_toCut, .int v_toLeave, .ref h_costAt, .ref h_places, .ref h_isCut, .ref h_written, .int v_writtenMany])), (h_buffer, .inl (cI, 900, .inl v_buffer))] [.int r_33] [] (k_X11_isLetter l D cI cJ cZ cO z  r_33 r_34 hc_) gX11_next_X11_isLetter rfl ⟨rfl, rfl⟩ hy_X11_isLetter rfl ⟨Nat.le_of_ble_eq_true rfl, Nat.le_of_ble_eq_true rfl⟩ rfl rfl rfl (Nat.le_of_ble_eq_true rfl) rfl dX11_next_83 rfl rfl ?_
          refine gq_if_eq hC 102 dX11_next_86 (by decide) (fun hc_35 => ?_) (fun hc_35 => ?_)
          · have hF := (if_pos hc_35).symm.trans hF
            cases hF
            exact hx0
          · have hF := (if_neg hc_35).symm.trans hF
            refine gq_aload_n hC 0 dX11_next_89 rfl rfl ?_
            refine gq_dup hC dX11_next_90 rfl ?_
            refine gq_get hC (kf := 9) 0 hin_X11 rfl rfl (by decide) hw_103 rfl dX11_next_91 ?_
            refine gq_iconst hC (1 : Int32) dX11_next_94 (by decide) ?_
            refine gq_iadd hC dX11_next_95 ?_
            refine gq_put1 hC (kf := 9) 0 [(h_t_, .inr (11, [.ref h_a, .ref h_fresh, .ref h_kept, .int v_keptMany, .int v_thrown, .ref h_buffer, .int v_buffered, .int v_size, .int v_at_29, .int (v_behind_30 + (1 : Int32)), .int v_kind_31, .int v_wrong, .int v_wrongAt, .int v_errorAt, .long v_number_32, .ref h_worthFrom, .ref h_cutsFrom, .ref h_endFrom, .ref h_changes, .ref h_waysFrom, .int v_toCut, .int v_toLeave, .ref h_costAt, .ref h_places, .ref h_isCut, .ref h_written, .int v_writtenMany])), (h_buffer, .inl (cI, 900, .inl v_buffer))] tyX11 tyX11_ok nmX11 hin_X11 rfl rfl (by decide) hw_103 rfl rfl rfl (Nat.le_of_ble_eq_true rfl) dX11_next_96 rfl ?_
            refine gq_goto hC 75 dX11_next_99 (by decide) ?_
            exact ih (v_behind_30 + (1 : Int32)) hF
      obtain ⟨e_37, hw_, hF⟩ := ob1_e hF
      refine lp75 e_8 v_kind v_number e_37 ?_ wF e_8 hw_
      refine gq_aload_n hC 0 dX11_next_102 rfl rfl ?_
      refine gq_iconst hC (0 : Int32) dX11_next_103 (by decide) ?_
      refine gq_put1 hC (kf := 10) 0 [(h_t_, .inr (11, [.ref h_a, .ref h_fresh, .ref h_kept, .int v_keptMany, .int v_thrown, .ref h_buffer, .int v_buffered, .int v_size, .int e_8, .int e_37, .int (0 : Int32), .int v_wrong, .int v_wrongAt, .int v_errorAt, .long v_number, .ref h_worthFrom, .ref h_cutsFrom, .ref h_endFrom, .ref h_changes, .ref h_waysFrom, .int v_toCut, .int v_toLeave, .ref h_costAt, .ref h_places, .ref h_isCut, .ref h_written, .int v_writtenMany])), (h_buffer, .inl (cI, 900, .inl v_buffer))] tyX11 tyX11_ok nmX11 hin_X11 rfl rfl (by decide) hw_113 rfl rfl rfl (Nat.le_of_ble_eq_true rfl) dX11_next_104 rfl ?_
      refine gq_goto hC 216 dX11_next_107 (by decide) ?_
      cases hF
      rw [hQ]
      exact gq_vret hC dX11_next_216
  · have hF := (if_neg hc_39).symm.trans hF
    refine gq_aload_n hC 0 dX11_next_53 rfl rfl ?_
    refine gq_iconst hC (3 : Int32) dX11_next_54 (by decide) ?_
    refine gq_put1 hC (kf := 10) 0 [(h_t_, .inr (11, [.ref h_a, .ref h_fresh, .ref h_kept, .int v_keptMany, .int v_thrown, .ref h_buffer, .int v_buffered, .int v_size, .int e_8, .int e_8, .int (3 : Int32), .int v_wrong, .int v_wrongAt, .int v_errorAt, .long v_number, .ref h_worthFrom, .ref h_cutsFrom, .ref h_endFrom, .ref h_changes, .ref h_waysFrom, .int v_toCut, .int v_toLeave, .ref h_costAt, .ref h_places, .ref h_isCut, .ref h_written, .int v_writtenMany])), (h_buffer, .inl (cI, 900, .inl v_buffer))] tyX11 tyX11_ok nmX11 hin_X11 rfl rfl (by decide) hw_113 rfl rfl rfl (Nat.le_of_ble_eq_true rfl) dX11_next_55 rfl ?_
    refine gq_goto hC 216 dX11_next_58 (by decide) ?_
    cases hF
    rw [hQ]
    exact gq_vret hC dX11_next_216
theorem hy_X11_isWord : yX11_isWord.cls = RX11 ∧ yX11_isWord.cls ≠ "java/lang/invoke/MethodHandle" ∧ yX11_isWord.cls ≠ "java/lang/invoke/VarHandle" ∧ (parseMethodDescriptor yX11_isWord.desc).map (fun d => d.parameters.length) = some 1 := by decide +kernel
set_option maxRecDepth 20000 in
set_option maxHeartbeats 4000000 in
theorem k_X11_isWord (l : Launch) (D : va_G) (cI cJ cZ cO : ClassId) (z : Nat → Nat) (s1 : Nat) (hs1 : s1 < 3) (h_t_ : Nat) (h_buffer : Nat) (h_a : Nat) (h_fresh : Nat) (h_kept : Nat) (h_worthFrom : Nat) (h_cutsFrom : Nat) (h_endFrom : Nat) (h_changes : Nat) (h_waysFrom : Nat) (h_costAt : Nat) (h_places : Nat) (h_isCut : Nat) (h_written : Nat)  (v_keptMany : Int32) (v_thrown : Int32) (v_buffered : Int32) (v_size : Int32) (v_at : Int32) (v_behind : Int32) (v_kind : Int32) (v_wrong : Int32) (v_wrongAt : Int32) (v_errorAt : Int32) (v_number : Int64) (v_toCut : Int32) (v_toLeave : Int32) (v_writtenMany : Int32) (v_buffer : Nat → Int32) (r_ : Int32) (hF : F_X11_isWord s1 v_at v_behind v_kind v_wrong v_buffer = some r_) : Mi l yX11_isWord wsX11_isWord (rmD 4) D (gq_ty cI cJ cZ cO) z [.ref h_t_, .ref (z (3 + s1))] [(h_t_, .inr (11, [.ref h_a, .ref h_fresh, .ref h_kept, .int v_keptMany, .int v_thrown, .ref h_buffer, .int v_buffered, .int v_size, .int v_at, .int v_behind, .int v_kind, .int v_wrong, .int v_wrongAt, .int v_errorAt, .long v_number, .ref h_worthFrom, .ref h_cutsFrom, .ref h_endFrom, .ref h_changes, .ref h_waysFrom, .int v_toCut, .int v_toLeave, .ref h_costAt, .ref h_places, .ref h_isCut, .ref h_written, .int v_writtenMany])), (h_buffer, .inl (cI, 900, .inl v_buffer))] r_ [(h_t_, .inr (11, [.ref h_a, .ref h_fresh, .ref h_kept, .int v_keptMany, .int v_thrown, .ref h_buffer, .int v_buffered, .int v_size, .int v_at, .int v_behind, .int v_kind, .int v_wrong, .int v_wrongAt, .int v_errorAt, .long v_number, .ref h_worthFrom, .ref h_cutsFrom, .ref h_endFrom, .ref h_changes, .ref h_waysFrom, .int v_toCut, .int v_toLeave, .ref h_costAt, .ref h_places, .ref h_isCut, .ref h_written, .int v_writtenMany])), (h_buffer, .inl (cI, 900, .inl v_buffer))] 0 0 := by
  refine Mi.of (cc := cX11_isWord) (maxL := 3) (by decide) rfl (Nat.le_of_ble_eq_true rfl) ⟨Nat.le_refl 0, Nat.le_refl 0⟩ ?_
  intro p e s m args below meth c A hC ha
  have hin_X11 : ∀ w ∈ wsX110, w ∈ wsX11_isWord := by decide +kernel
  have hw_19 : Cond.fieldLink RX11 19 (TX11 5).1 (TX11 5).2.1 (TX11 5).2.2.1 ∈ wsX11_isWord := by decide +kernel
  have hw_103 : Cond.fieldLink RX11 103 (TX11 9).1 (TX11 9).2.1 (TX11 9).2.2.1 ∈ wsX11_isWord := by decide +kernel
  have hw_106 : Cond.fieldLink RX11 106 (TX11 8).1 (TX11 8).2.1 (TX11 8).2.2.1 ∈ wsX11_isWord := by decide +kernel
  have hw_113 : Cond.fieldLink RX11 113 (TX11 10).1 (TX11 10).2.1 (TX11 10).2.2.1 ∈ wsX11_isWord := by decide +kernel
  have hw_131 : Cond.fieldLink RX11 131 (TX11 11).1 (TX11 11).2.1 (TX11 11).2.2.1 ∈ wsX11_isWord := by decide +kernel
  obtain ⟨Q, hQ⟩ : ∃ Q, Q = gq_Qi below D A args s r_ [(h_t_, .inr (11, [.ref h_a, .ref h_fresh, .ref h_kept, .int v_keptMany, .int v_thrown, .ref h_buffer, .int v_buffered, .int v_size, .int v_at, .int v_behind, .int v_kind, .int v_wrong, .int v_wrongAt, .int v_errorAt, .long v_number, .ref h_worthFrom, .ref h_cutsFrom, .ref h_endFrom, .ref h_changes, .ref h_waysFrom, .int v_toCut, .int v_toLeave, .ref h_costAt, .ref h_places, .ref h_isCut, .ref h_written, .int v_writtenMany])), (h_buffer, .inl (cI, 900, .inl v_buffer))] 0 0 := ⟨_, rfl⟩
  rw [← hQ]
  refine gq_loc [(0, .ref h_t_), (1, .ref (z (3 + s1)))] rfl ?_
  unfold F_X11_isWord at hF
  refine gq_aload_n hC 0 dX11_isWord_0 rfl rfl ?_
  refine gq_get hC (kf := 11) 0 hin_X11 rfl rfl (by decide) hw_131 rfl dX11_isWord_1 ?_
  refine gq_if_ne hC 30 dX11_isWord_4 (by decide) (fun hc_10 => ?_) (fun hc_10 => ?_)
  · have hF := (if_neg hc_10).symm.trans hF
    refine gq_iconst hC (0 : Int32) dX11_isWord_30 (by decide) ?_
    cases hF
    rw [hQ]
    exact gq_iret hC rfl dX11_isWord_31
  · have hF := (if_pos hc_10).symm.trans hF
    refine gq_aload_n hC 0 dX11_isWord_7 rfl rfl ?_
    refine gq_get hC (kf := 10) 0 hin_X11 rfl rfl (by decide) hw_113 rfl dX11_isWord_8 ?_
    refine gq_if_ne hC 30 dX11_isWord_11 (by decide) (fun hc_9 => ?_) (fun hc_9 => ?_)
    · have hF := (if_neg hc_9).symm.trans hF
      refine gq_iconst hC (0 : Int32) dX11_isWord_30 (by decide) ?_
      cases hF
      rw [hQ]
      exact gq_iret hC rfl dX11_isWord_31
    · have hF := (if_pos hc_9).symm.trans hF
      refine gq_aload_n hC 0 dX11_isWord_14 rfl rfl ?_
      refine gq_get hC (kf := 9) 0 hin_X11 rfl rfl (by decide) hw_103 rfl dX11_isWord_15 ?_
      refine gq_aload_n hC 0 dX11_isWord_18 rfl rfl ?_
      refine gq_get hC (kf := 8) 0 hin_X11 rfl rfl (by decide) hw_106 rfl dX11_isWord_19 ?_
      refine gq_isub hC dX11_isWord_22 ?_
      refine gq_aload_n hC 1 dX11_isWord_23 rfl rfl ?_
      refine gq_callRi hC [] [(h_t_, .inr (11, [.ref h_a, .ref h_fresh, .ref h_kept, .int v_keptMany, .int v_thrown, .ref h_buffer, .int v_buffered, .int v_size, .int v_at, .int v_behind, .int v_kind, .int v_wrong, .int v_wrongAt, .int v_errorAt, .long v_number, .ref h_worthFrom, .ref h_cutsFrom, .ref h_endFrom, .ref h_changes, .ref h_waysFrom, .int v_toCut, .int v_toLeave, .ref h_costAt, .ref h_places, .ref h_isCut, .ref h_written, .int v_writtenMany])), (h_buffer, .inl (cI, 900, .inl v_buffer))] [] [.int (v_behind - v_at)] (k_J0_length l D (gq_ty cI cJ cZ cO) z s1 hs1) gX11_isWord_J0_length_8abf5 rfl ⟨rfl, rfl⟩ hy_J0_length ⟨Nat.le_of_ble_eq_true rfl, Nat.le_of_ble_eq_true rfl⟩ rfl rfl rfl (fun _ _ hS => vk_recv (i := s1) (adK := fun j => z (3 + j)) hC.2.2.2.2.2.2.2.2.2.2.2.2.2.2.2.1 hs1 hS) (Nat.le_of_ble_eq_true rfl) rfl dX11_isWord_24 rfl rfl ?_
      refine gq_icmp_eq hC 32 dX11_isWord_27 (by decide) (fun hc_8 => ?_) (fun hc_8 => ?_)
      · have hF := (if_pos hc_8).symm.trans hF
        refine gq_iconst hC (0 : Int32) dX11_isWord_32 (by decide) ?_
        refine gq_istore_n hC [(2, .int (0 : Int32)), (0, .ref h_t_), (1, .ref (z (3 + s1)))] dX11_isWord_33 rfl (by decide) rfl ?_
        have lp34 : ∀ (out_ : (Unit) ⊕ (Unit)), (out_ = .inl () → Gx p l e (rmD 4) s m args below meth c D A 3 Q 0 0 61 [] [] [(h_t_, .inr (11, [.ref h_a, .ref h_fresh, .ref h_kept, .int v_keptMany, .int v_thrown, .ref h_buffer, .int v_buffered, .int v_size, .int v_at, .int v_behind, .int v_kind, .int v_wrong, .int v_wrongAt, .int v_errorAt, .long v_number, .ref h_worthFrom, .ref h_cutsFrom, .ref h_endFrom, .ref h_changes, .ref h_waysFrom, .int v_toCut, .int v_toLeave, .ref h_costAt, .ref h_places, .ref h_isCut, .ref h_written, .int v_writtenMany])), (h_buffer, .inl (cI, 900, .inl v_buffer))]) → (out_ = .inr () → Gx p l e (rmD 4) s m args below meth c D A 3 Q 0 0 69 [] [] [(h_t_, .inr (11, [.ref h_a, .ref h_fresh, .ref h_kept, .int v_keptMany, .int v_thrown, .ref h_buffer, .int v_buffered, .int v_size, .int v_at, .int v_behind, .int v_kind, .int v_wrong, .int v_wrongAt, .int v_errorAt, .long v_number, .ref h_worthFrom, .ref h_cutsFrom, .ref h_endFrom, .ref h_changes, .ref h_waysFrom, .int v_toCut, .int v_toLeave, .ref h_costAt, .ref h_places, .ref h_isCut, .ref h_written, .int v_writtenMany])), (h_buffer, .inl (cI, 900, .inl v_buffer))]) → ∀ (N : Nat) (l2_1 : Int32), wh (fun k q => S_X11_isWord_34 s1 v_at v_buffer k q) N l2_1 = some out_ → Gx p l e (rmD 4) s m args below meth c D A 3 Q 0 0 34 [(0, .ref h_t_), (1, .ref (z (3 + s1))), (2, .int l2_1)] [] [(h_t_, .inr (11, [.ref h_a, .ref h_fresh, .ref h_kept, .int v_keptMany, .int v_thrown, .ref h_buffer, .int v_buffered, .int v_size, .int v_at, .int v_behind, .int v_kind, .int v_wrong, .int v_wrongAt, .int v_errorAt, .long v_number, .ref h_worthFrom, .ref h_cutsFrom, .ref h_endFrom, .ref h_changes, .ref h_waysFrom, .int v_toCut, .int v_toLeave, .ref h_costAt, .ref h_places, .ref h_isCut, .ref h_written, .int v_writtenMany])), (h_buffer, .inl (cI, 900, .inl v_buffer))] := by
          intro out_ hx0 hx1 N
          induction N with
          | zero => intro l2_1 hw; exact absurd hw (wh_0 _ _ _)
          | succ N ih =>
            intro l2_1 hw
            have hF : S_X11_isWord_34 s1 v_at v_buffer (wh (fun k q => S_X11_isWord_34 s1 v_at v_buffer k q) N) l2_1 = some out_ := hw
            unfold S_X11_isWord_34 at hF
            refine gq_iload_n hC 2 dX11_isWord_34 rfl rfl ?_
            refine gq_aload_n hC 1 dX11_isWord_35 rfl rfl ?_
            refine gq_callRi hC [] [(h_t_, .inr (11, [.ref h_a, .ref h_fresh, .ref h_kept, .int v_keptMany, .int v_thrown, .ref h_buffer, .int v_buffered, .int v_size, .int v_at, .int v_behind, .int v_kind, .int v_wrong, .int v_wrongAt, .int v_errorAt, .long v_number, .ref h_worthFrom, .ref h_cutsFrom, .ref h_endFrom, .ref h_changes, .ref h_waysFrom, .int v_toCut, .int v_toLeave, .ref h_costAt, .ref h_places, .ref h_isCut, .ref h_written, .int v_writtenMany])), (h_buffer, .inl (cI, 900, .inl v_buffer))] [] [.int l2_1] (k_J0_length l D (gq_ty cI cJ cZ cO) z s1 hs1) gX11_isWord_J0_length_8abf5 rfl ⟨rfl, rfl⟩ hy_J0_length ⟨Nat.le_of_ble_eq_true rfl, Nat.le_of_ble_eq_true rfl⟩ rfl rfl rfl (fun _ _ hS => vk_recv (i := s1) (adK := fun j => z (3 + j)) hC.2.2.2.2.2.2.2.2.2.2.2.2.2.2.2.1 hs1 hS) (Nat.le_of_ble_eq_true rfl) rfl dX11_isWord_36 rfl rfl ?_
            refine gq_icmp_ge hC 69 dX11_isWord_39 (by decide) (fun hc_5 => ?_) (fun hc_5 => ?_)
            · have hF := (if_pos hc_5).symm.trans hF
              refine gq_sub [] [] rfl ?_
              exact hx1  (Option.some.inj hF).symm
            · have hF := (if_neg hc_5).symm.trans hF
              refine gq_aload_n hC 0 dX11_isWord_42 rfl rfl ?_
              refine gq_get hC (kf := 5) 0 hin_X11 rfl rfl (by decide) hw_19 rfl dX11_isWord_43 ?_
              refine gq_aload_n hC 0 dX11_isWord_46 rfl rfl ?_
              refine gq_get hC (kf := 8) 0 hin_X11 rfl rfl (by decide) hw_106 rfl dX11_isWord_47 ?_
              refine gq_iload_n hC 2 dX11_isWord_50 rfl rfl ?_
              refine gq_iadd hC dX11_isWord_51 ?_
              obtain ⟨hi_2, hF⟩ := gi_e hF
              refine gq_iald hC 1 0 rfl rfl hi_2 dX11_isWord_52 ?_
              refine gq_aload_n hC 1 dX11_isWord_53 rfl rfl ?_
              refine gq_iload_n hC 2 dX11_isWord_54 rfl rfl ?_
              obtain ⟨hi_3, hF⟩ := gi_e hF
              refine gq_callRi hC [] [(h_t_, .inr (11, [.ref h_a, .ref h_fresh, .ref h_kept, .int v_keptMany, .int v_thrown, .ref h_buffer, .int v_buffered, .int v_size, .int v_at, .int v_behind, .int v_kind, .int v_wrong, .int v_wrongAt, .int v_errorAt, .long v_number, .ref h_worthFrom, .ref h_cutsFrom, .ref h_endFrom, .ref h_changes, .ref h_waysFrom, .int v_toCut, .int v_toLeave, .ref h_costAt, .ref h_places, .ref h_isCut, .ref h_written, .int v_writtenMany])), (h_buffer, .inl (cI, 900, .inl v_buffer))] [.int l2_1] [.int (v_buffer (v_at + l2_1).toNatClampNeg)] (k_J0_charAt l D (gq_ty cI cJ cZ cO) z s1 hs1 l2_1 hi_3) gX11_isWord_J0_charAt_5068e rfl ⟨rfl, rfl⟩ hy_J0_charAt ⟨Nat.le_of_ble_eq_true rfl, Nat.le_of_ble_eq_true rfl⟩ rfl rfl rfl (fun _ _ hS => vk_recv (i := s1) (adK := fun j => z (3 + j)) hC.2.2.2.2.2.2.2.2.2.2.2.2.2.2.2.1 hs1 hS) (Nat.le_of_ble_eq_true rfl) rfl dX11_isWord_55 rfl rfl ?_
              refine gq_icmp_eq hC 63 dX11_isWord_58 (by decide) (fun hc_4 => ?_) (fun hc_4 => ?_)
              · have hF := (if_pos hc_4).symm.trans hF
                refine gq_iinc hC 2 (l2_1 + (1 : Int32)) [(2, .int (l2_1 + (1 : Int32))), (0, .ref h_t_), (1, .ref (z (3 + s1)))] dX11_isWord_63 rfl rfl (by decide) rfl ?_
                refine gq_goto hC 34 dX11_isWord_66 (by decide) ?_
                refine gq_sub [(0, .ref h_t_), (1, .ref (z (3 + s1))), (2, .int (l2_1 + (1 : Int32)))] [1, 2, 0] rfl ?_
                exact ih (l2_1 + (1 : Int32)) hF
              · have hF := (if_neg hc_4).symm.trans hF
                refine gq_sub [] [] rfl ?_
                exact hx0  (Option.some.inj hF).symm
        refine gq_sub [(0, .ref h_t_), (1, .ref (z (3 + s1))), (2, .int (0 : Int32))] [1, 2, 0] rfl ?_
        obtain ⟨o_, hw_, hF⟩ := ob1_e hF
        refine lp34  o_ ?_ ?_ wF (0 : Int32) hw_
        · intro  ho_6
          subst ho_6
          have hF : (some (0 : Int32)) = some _ := hF
          refine gq_iconst hC (0 : Int32) dX11_isWord_61 (by decide) ?_
          cases hF
          rw [hQ]
          exact gq_iret hC rfl dX11_isWord_62
        · intro  ho_7
          subst ho_7
          have hF : (some (1 : Int32)) = some _ := hF
          refine gq_iconst hC (1 : Int32) dX11_isWord_69 (by decide) ?_
          cases hF
          rw [hQ]
          exact gq_iret hC rfl dX11_isWord_70
      · have hF := (if_neg hc_8).symm.trans hF
        refine gq_iconst hC (0 : Int32) dX11_isWord_30 (by decide) ?_
        cases hF
        rw [hQ]
        exact gq_iret hC rfl dX11_isWord_31
theorem hy_X11_fails : yX11_fails.cls = RX11 ∧ yX11_fails.cls ≠ "java/lang/invoke/MethodHandle" ∧ yX11_fails.cls ≠ "java/lang/invoke/VarHandle" ∧ (parseMethodDescriptor yX11_fails.desc).map (fun d => d.parameters.length) = some 1 := by decide +kernel
set_option maxRecDepth 20000 in
set_option maxHeartbeats 4000000 in
theorem k_X11_fails (l : Launch) (D : va_G) (cI cJ cZ cO : ClassId) (z : Nat → Nat)   (h_t_ : Nat) (h_a : Nat) (h_fresh : Nat) (h_kept : Nat) (h_buffer : Nat) (h_worthFrom : Nat) (h_cutsFrom : Nat) (h_endFrom : Nat) (h_changes : Nat) (h_waysFrom : Nat) (h_costAt : Nat) (h_places : Nat) (h_isCut : Nat) (h_written : Nat) (x1 : Int32) (v_keptMany : Int32) (v_thrown : Int32) (v_buffered : Int32) (v_size : Int32) (v_at : Int32) (v_behind : Int32) (v_kind : Int32) (v_wrong : Int32) (v_wrongAt : Int32) (v_errorAt : Int32) (v_number : Int64) (v_toCut : Int32) (v_toLeave : Int32) (v_writtenMany : Int32) (w_wrong : Int32) (w_wrongAt : Int32) (hF : F_X11_fails x1 v_at v_wrong v_wrongAt = some (w_wrong, w_wrongAt)) : Mv l yX11_fails wsX11_fails (rmD 0) D (gq_ty cI cJ cZ cO) z [.ref h_t_, .int x1] [(h_t_, .inr (11, [.ref h_a, .ref h_fresh, .ref h_kept, .int v_keptMany, .int v_thrown, .ref h_buffer, .int v_buffered, .int v_size, .int v_at, .int v_behind, .int v_kind, .int v_wrong, .int v_wrongAt, .int v_errorAt, .long v_number, .ref h_worthFrom, .ref h_cutsFrom, .ref h_endFrom, .ref h_changes, .ref h_waysFrom, .int v_toCut, .int v_toLeave, .ref h_costAt, .ref h_places, .ref h_isCut, .ref h_written, .int v_writtenMany]))] [(h_t_, .inr (11, [.ref h_a, .ref h_fresh, .ref h_kept, .int v_keptMany, .int v_thrown, .ref h_buffer, .int v_buffered, .int v_size, .int v_at, .int v_behind, .int v_kind, .int w_wrong, .int w_wrongAt, .int v_errorAt, .long v_number, .ref h_worthFrom, .ref h_cutsFrom, .ref h_endFrom, .ref h_changes, .ref h_waysFrom, .int v_toCut, .int v_toLeave, .ref h_costAt, .ref h_places, .ref h_isCut, .ref h_written, .int v_writtenMany]))] 0 0 := by
  refine Mv.of (cc := cX11_fails) (maxL := 2) (by decide) rfl (Nat.le_of_ble_eq_true rfl) ⟨Nat.le_refl 0, Nat.le_refl 0⟩ ?_
  intro p e s m args below meth c A hC ha
  have hin_X11 : ∀ w ∈ wsX110, w ∈ wsX11_fails := by decide +kernel
  have hw_106 : Cond.fieldLink RX11 106 (TX11 8).1 (TX11 8).2.1 (TX11 8).2.2.1 ∈ wsX11_fails := by decide +kernel
  have hw_131 : Cond.fieldLink RX11 131 (TX11 11).1 (TX11 11).2.1 (TX11 11).2.2.1 ∈ wsX11_fails := by decide +kernel
  have hw_144 : Cond.fieldLink RX11 144 (TX11 12).1 (TX11 12).2.1 (TX11 12).2.2.1 ∈ wsX11_fails := by decide +kernel
  obtain ⟨Q, hQ⟩ : ∃ Q, Q = gq_Qv below D A args s [(h_t_, .inr (11, [.ref h_a, .ref h_fresh, .ref h_kept, .int v_keptMany, .int v_thrown, .ref h_buffer, .int v_buffered, .int v_size, .int v_at, .int v_behind, .int v_kind, .int w_wrong, .int w_wrongAt, .int v_errorAt, .long v_number, .ref h_worthFrom, .ref h_cutsFrom, .ref h_endFrom, .ref h_changes, .ref h_waysFrom, .int v_toCut, .int v_toLeave, .ref h_costAt, .ref h_places, .ref h_isCut, .ref h_written, .int v_writtenMany]))] 0 0 := ⟨_, rfl⟩
  rw [← hQ]
  refine gq_loc [(0, .ref h_t_), (1, .int x1)] rfl ?_
  unfold F_X11_fails at hF
  refine gq_aload_n hC 0 dX11_fails_0 rfl rfl ?_
  refine gq_get hC (kf := 11) 0 hin_X11 rfl rfl (by decide) hw_131 rfl dX11_fails_1 ?_
  refine gq_if_eq hC 8 dX11_fails_4 (by decide) (fun hc_1 => ?_) (fun hc_1 => ?_)
  · have hF := (if_pos hc_1).symm.trans hF
    refine gq_aload_n hC 0 dX11_fails_8 rfl rfl ?_
    refine gq_iload_n hC 1 dX11_fails_9 rfl rfl ?_
    refine gq_put1 hC (kf := 11) 0 [(h_t_, .inr (11, [.ref h_a, .ref h_fresh, .ref h_kept, .int v_keptMany, .int v_thrown, .ref h_buffer, .int v_buffered, .int v_size, .int v_at, .int v_behind, .int v_kind, .int x1, .int v_wrongAt, .int v_errorAt, .long v_number, .ref h_worthFrom, .ref h_cutsFrom, .ref h_endFrom, .ref h_changes, .ref h_waysFrom, .int v_toCut, .int v_toLeave, .ref h_costAt, .ref h_places, .ref h_isCut, .ref h_written, .int v_writtenMany]))] tyX11 tyX11_ok nmX11 hin_X11 rfl rfl (by decide) hw_131 rfl rfl rfl (Nat.le_of_ble_eq_true rfl) dX11_fails_10 rfl ?_
    refine gq_aload_n hC 0 dX11_fails_13 rfl rfl ?_
    refine gq_aload_n hC 0 dX11_fails_14 rfl rfl ?_
    refine gq_get hC (kf := 8) 0 hin_X11 rfl rfl (by decide) hw_106 rfl dX11_fails_15 ?_
    refine gq_put1 hC (kf := 12) 0 [(h_t_, .inr (11, [.ref h_a, .ref h_fresh, .ref h_kept, .int v_keptMany, .int v_thrown, .ref h_buffer, .int v_buffered, .int v_size, .int v_at, .int v_behind, .int v_kind, .int x1, .int v_at, .int v_errorAt, .long v_number, .ref h_worthFrom, .ref h_cutsFrom, .ref h_endFrom, .ref h_changes, .ref h_waysFrom, .int v_toCut, .int v_toLeave, .ref h_costAt, .ref h_places, .ref h_isCut, .ref h_written, .int v_writtenMany]))] tyX11 tyX11_ok nmX11 hin_X11 rfl rfl (by decide) hw_144 rfl rfl rfl (Nat.le_of_ble_eq_true rfl) dX11_fails_18 rfl ?_
    cases hF
    rw [hQ]
    exact gq_vret hC dX11_fails_21
  · have hF := (if_neg hc_1).symm.trans hF
    cases hF
    rw [hQ]
    exact gq_vret hC dX11_fails_7
theorem hy_X11_must : yX11_must.cls = RX11 ∧ yX11_must.cls ≠ "java/lang/invoke/MethodHandle" ∧ yX11_must.cls ≠ "java/lang/invoke/VarHandle" ∧ (parseMethodDescriptor yX11_must.desc).map (fun d => d.parameters.length) = some 1 := by decide +kernel
set_option maxRecDepth 20000 in
set_option maxHeartbeats 4000000 in
theorem k_X11_must (l : Launch) (D : va_G) (cI cJ cZ cO : ClassId) (z : Nat → Nat)   (h_t_ : Nat) (h_buffer : Nat) (h_a : Nat) (h_fresh : Nat) (h_kept : Nat) (h_worthFrom : Nat) (h_cutsFrom : Nat) (h_endFrom : Nat) (h_changes : Nat) (h_waysFrom : Nat) (h_costAt : Nat) (h_places : Nat) (h_isCut : Nat) (h_written : Nat) (x1 : Int32) (v_keptMany : Int32) (v_thrown : Int32) (v_buffered : Int32) (v_size : Int32) (v_at : Int32) (v_behind : Int32) (v_kind : Int32) (v_wrong : Int32) (v_wrongAt : Int32) (v_errorAt : Int32) (v_number : Int64) (v_toCut : Int32) (v_toLeave : Int32) (v_writtenMany : Int32) (v_buffer : Nat → Int32) (w_at : Int32) (w_behind : Int32) (w_kind : Int32) (w_wrong : Int32) (w_wrongAt : Int32) (w_number : Int64) (hF : F_X11_must x1 v_size v_at v_behind v_kind v_wrong v_wrongAt v_number v_buffer = some (w_at, w_behind, w_kind, w_wrong, w_wrongAt, w_number)) : Mv l yX11_must wsX11_must (rmD 3) D (gq_ty cI cJ cZ cO) z [.ref h_t_, .int x1] [(h_t_, .inr (11, [.ref h_a, .ref h_fresh, .ref h_kept, .int v_keptMany, .int v_thrown, .ref h_buffer, .int v_buffered, .int v_size, .int v_at, .int v_behind, .int v_kind, .int v_wrong, .int v_wrongAt, .int v_errorAt, .long v_number, .ref h_worthFrom, .ref h_cutsFrom, .ref h_endFrom, .ref h_changes, .ref h_waysFrom, .int v_toCut, .int v_toLeave, .ref h_costAt, .ref h_places, .ref h_isCut, .ref h_written, .int v_writtenMany])), (h_buffer, .inl (cI, 900, .inl v_buffer))] [(h_t_, .inr (11, [.ref h_a, .ref h_fresh, .ref h_kept, .int v_keptMany, .int v_thrown, .ref h_buffer, .int v_buffered, .int v_size, .int w_at, .int w_behind, .int w_kind, .int w_wrong, .int w_wrongAt, .int v_errorAt, .long w_number, .ref h_worthFrom, .ref h_cutsFrom, .ref h_endFrom, .ref h_changes, .ref h_waysFrom, .int v_toCut, .int v_toLeave, .ref h_costAt, .ref h_places, .ref h_isCut, .ref h_written, .int v_writtenMany])), (h_buffer, .inl (cI, 900, .inl v_buffer))] 0 0 := by
  refine Mv.of (cc := cX11_must) (maxL := 2) (by decide) rfl (Nat.le_of_ble_eq_true rfl) ⟨Nat.le_refl 0, Nat.le_refl 0⟩ ?_
  intro p e s m args below meth c A hC ha
  have hin_X11 : ∀ w ∈ wsX110, w ∈ wsX11_must := by decide +kernel
  have hw_131 : Cond.fieldLink RX11 131 (TX11 11).1 (TX11 11).2.1 (TX11 11).2.2.1 ∈ wsX11_must := by decide +kernel
  obtain ⟨Q, hQ⟩ : ∃ Q, Q = gq_Qv below D A args s [(h_t_, .inr (11, [.ref h_a, .ref h_fresh, .ref h_kept, .int v_keptMany, .int v_thrown, .ref h_buffer, .int v_buffered, .int v_size, .int w_at, .int w_behind, .int w_kind, .int w_wrong, .int w_wrongAt, .int v_errorAt, .long w_number, .ref h_worthFrom, .ref h_cutsFrom, .ref h_endFrom, .ref h_changes, .ref h_waysFrom, .int v_toCut, .int v_toLeave, .ref h_costAt, .ref h_places, .ref h_isCut, .ref h_written, .int v_writtenMany])), (h_buffer, .inl (cI, 900, .inl v_buffer))] 0 0 := ⟨_, rfl⟩
  rw [← hQ]
  refine gq_loc [(0, .ref h_t_), (1, .int x1)] rfl ?_
  have jb10 : ∀ (v_at_1 : Int32) (v_behind_2 : Int32) (v_kind_3 : Int32) (v_wrong_4 : Int32) (v_wrongAt_5 : Int32) (v_number_6 : Int64), F_X11_must_b10 v_size v_at_1 v_behind_2 v_kind_3 v_wrong_4 v_wrongAt_5 v_number_6 v_buffer = some (w_at, w_behind, w_kind, w_wrong, w_wrongAt, w_number) → Gx p l e (rmD 3) s m args below meth c D A 2 Q 0 0 10 [(0, .ref h_t_)] [] [(h_t_, .inr (11, [.ref h_a, .ref h_fresh, .ref h_kept, .int v_keptMany, .int v_thrown, .ref h_buffer, .int v_buffered, .int v_size, .int v_at_1, .int v_behind_2, .int v_kind_3, .int v_wrong_4, .int v_wrongAt_5, .int v_errorAt, .long v_number_6, .ref h_worthFrom, .ref h_cutsFrom, .ref h_endFrom, .ref h_changes, .ref h_waysFrom, .int v_toCut, .int v_toLeave, .ref h_costAt, .ref h_places, .ref h_isCut, .ref h_written, .int v_writtenMany])), (h_buffer, .inl (cI, 900, .inl v_buffer))] := by
    intro v_at_1 v_behind_2 v_kind_3 v_wrong_4 v_wrongAt_5 v_number_6 hF
    unfold F_X11_must_b10 at hF
    refine gq_aload_n hC 0 dX11_must_10 rfl rfl ?_
    refine gq_get hC (kf := 11) 0 hin_X11 rfl rfl (by decide) hw_131 rfl dX11_must_11 ?_
    refine gq_if_ne hC 21 dX11_must_14 (by decide) (fun hc_11 => ?_) (fun hc_11 => ?_)
    · have hF := (if_neg hc_11).symm.trans hF
      cases hF
      rw [hQ]
      exact gq_vret hC dX11_must_21
    · have hF := (if_pos hc_11).symm.trans hF
      refine gq_aload_n hC 0 dX11_must_17 rfl rfl ?_
      obtain ⟨v_at_7, v_behind_8, v_kind_9, v_number_10, hc_, hF⟩ := ob4_e hF
      refine gq_callVv hC [0, 1] [(h_t_, .inr (11, [.ref h_a, .ref h_fresh, .ref h_kept, .int v_keptMany, .int v_thrown, .ref h_buffer, .int v_buffered, .int v_size, .int v_at_7, .int v_behind_8, .int v_kind_9, .int v_wrong_4, .int v_wrongAt_5, .int v_errorAt, .long v_number_10, .ref h_worthFrom, .ref h_cutsFrom, .ref h_endFrom, .ref h_changes, .ref h_waysFrom, .int v_toCut, .int v_toLeave, .ref h_costAt, .ref h_places, .ref h_isCut, .ref h_written, .int v_writtenMany])), (h_buffer, .inl (cI, 900, .inl v_buffer))] [] [] (k_X11_next l D cI cJ cZ cO z h_t_ h_buffer h_a h_fresh h_kept h_worthFrom h_cutsFrom h_endFrom h_changes h_waysFrom h_costAt h_places h_isCut h_written v_keptMany v_thrown v_buffered v_size v_at_1 v_behind_2 v_kind_3 v_wrong_4 v_wrongAt_5 v_errorAt v_number_6 v_toCut v_toLeave v_writtenMany v_buffer v_at_7 v_behind_8 v_kind_9 v_number_10 hc_) gX11_must_X11_next rfl ⟨rfl, rfl⟩ hy_X11_next ⟨Nat.le_of_ble_eq_true rfl, Nat.le_of_ble_eq_true rfl⟩ rfl rfl rfl (q0 := 0) rfl rfl rfl (Nat.le_of_ble_eq_true rfl) rfl dX11_must_18 rfl rfl ?_
      cases hF
      rw [hQ]
      exact gq_vret hC dX11_must_21
  unfold F_X11_must at hF
  refine gq_iload_n hC 1 dX11_must_0 rfl rfl ?_
  refine gq_if_ne hC 10 dX11_must_1 (by decide) (fun hc_14 => ?_) (fun hc_14 => ?_)
  · have hF := (if_neg hc_14).symm.trans hF
    refine gq_sub [(0, .ref h_t_)] [0] rfl ?_
    exact jb10 v_at v_behind v_kind v_wrong v_wrongAt v_number hF
  · have hF := (if_pos hc_14).symm.trans hF
    refine gq_aload_n hC 0 dX11_must_4 rfl rfl ?_
    refine gq_bipush hC (-2 : Int32) dX11_must_5 (by decide) ?_
    obtain ⟨v_wrong_12, v_wrongAt_13, hc_, hF⟩ := ob2_e hF
    refine gq_callVv hC [0] [(h_t_, .inr (11, [.ref h_a, .ref h_fresh, .ref h_kept, .int v_keptMany, .int v_thrown, .ref h_buffer, .int v_buffered, .int v_size, .int v_at, .int v_behind, .int v_kind, .int v_wrong_12, .int v_wrongAt_13, .int v_errorAt, .long v_number, .ref h_worthFrom, .ref h_cutsFrom, .ref h_endFrom, .ref h_changes, .ref h_waysFrom, .int v_toCut, .int v_toLeave, .ref h_costAt, .ref h_places, .ref h_isCut, .ref h_written, .int v_writtenMany])), (h_buffer, .inl (cI, 900, .inl v_buffer))] [.int (-2 : Int32)] [] (k_X11_fails l D cI cJ cZ cO z h_t_ h_a h_fresh h_kept h_buffer h_worthFrom h_cutsFrom h_endFrom h_changes h_waysFrom h_costAt h_places h_isCut h_written (-2 : Int32) v_keptMany v_thrown v_buffered v_size v_at v_behind v_kind v_wrong v_wrongAt v_errorAt v_number v_toCut v_toLeave v_writtenMany v_wrong_12 v_wrongAt_13 hc_) gX11_must_X11_fails rfl ⟨rfl, rfl⟩ hy_X11_fails ⟨Nat.le_of_ble_eq_true rfl, Nat.le_of_ble_eq_true rfl⟩ rfl rfl rfl (q0 := 0) rfl rfl rfl (Nat.le_of_ble_eq_true rfl) rfl dX11_must_7 rfl rfl ?_
    refine gq_sub [(0, .ref h_t_)] [0] rfl ?_
    exact jb10 v_at v_behind v_kind v_wrong_12 v_wrongAt_13 v_number hF
theorem hy_X11_takes : yX11_takes.cls = RX11 ∧ yX11_takes.cls ≠ "java/lang/invoke/MethodHandle" ∧ yX11_takes.cls ≠ "java/lang/invoke/VarHandle" ∧ (parseMethodDescriptor yX11_takes.desc).map (fun d => d.parameters.length) = some 2 := by decide +kernel
set_option maxRecDepth 20000 in
set_option maxHeartbeats 4000000 in
theorem k_X11_takes (l : Launch) (D : va_G) (cI cJ cZ cO : ClassId) (z : Nat → Nat)   (h_t_ : Nat) (h_buffer : Nat) (h_a : Nat) (h_fresh : Nat) (h_kept : Nat) (h_worthFrom : Nat) (h_cutsFrom : Nat) (h_endFrom : Nat) (h_changes : Nat) (h_waysFrom : Nat) (h_costAt : Nat) (h_places : Nat) (h_isCut : Nat) (h_written : Nat) (x1 : Int32) (x2 : Int32) (v_keptMany : Int32) (v_thrown : Int32) (v_buffered : Int32) (v_size : Int32) (v_at : Int32) (v_behind : Int32) (v_kind : Int32) (v_wrong : Int32) (v_wrongAt : Int32) (v_errorAt : Int32) (v_number : Int64) (v_toCut : Int32) (v_toLeave : Int32) (v_writtenMany : Int32) (v_buffer : Nat → Int32) (r_ : Int32) (w_at : Int32) (w_behind : Int32) (w_kind : Int32) (w_wrong : Int32) (w_wrongAt : Int32) (w_number : Int64) (hF : F_X11_takes x1 x2 v_size v_at v_behind v_kind v_wrong v_wrongAt v_number v_buffer = some (r_, w_at, w_behind, w_kind, w_wrong, w_wrongAt, w_number)) : Mi l yX11_takes wsX11_takes (rmD 3) D (gq_ty cI cJ cZ cO) z [.ref h_t_, .int x1, .int x2] [(h_t_, .inr (11, [.ref h_a, .ref h_fresh, .ref h_kept, .int v_keptMany, .int v_thrown, .ref h_buffer, .int v_buffered, .int v_size, .int v_at, .int v_behind, .int v_kind, .int v_wrong, .int v_wrongAt, .int v_errorAt, .long v_number, .ref h_worthFrom, .ref h_cutsFrom, .ref h_endFrom, .ref h_changes, .ref h_waysFrom, .int v_toCut, .int v_toLeave, .ref h_costAt, .ref h_places, .ref h_isCut, .ref h_written, .int v_writtenMany])), (h_buffer, .inl (cI, 900, .inl v_buffer))] r_ [(h_t_, .inr (11, [.ref h_a, .ref h_fresh, .ref h_kept, .int v_keptMany, .int v_thrown, .ref h_buffer, .int v_buffered, .int v_size, .int w_at, .int w_behind, .int w_kind, .int w_wrong, .int w_wrongAt, .int v_errorAt, .long w_number, .ref h_worthFrom, .ref h_cutsFrom, .ref h_endFrom, .ref h_changes, .ref h_waysFrom, .int v_toCut, .int v_toLeave, .ref h_costAt, .ref h_places, .ref h_isCut, .ref h_written, .int v_writtenMany])), (h_buffer, .inl (cI, 900, .inl v_buffer))] 0 0 := by
  refine Mi.of (cc := cX11_takes) (maxL := 4) (by decide) rfl (Nat.le_of_ble_eq_true rfl) ⟨Nat.le_refl 0, Nat.le_refl 0⟩ ?_
  intro p e s m args below meth c A hC ha
  have hin_X11 : ∀ w ∈ wsX110, w ∈ wsX11_takes := by decide +kernel
  have hw_113 : Cond.fieldLink RX11 113 (TX11 10).1 (TX11 10).2.1 (TX11 10).2.2.1 ∈ wsX11_takes := by decide +kernel
  have hw_123 : Cond.fieldLink RX11 123 (TX11 14).1 (TX11 14).2.1 (TX11 14).2.2.1 ∈ wsX11_takes := by decide +kernel
  have hw_131 : Cond.fieldLink RX11 131 (TX11 11).1 (TX11 11).2.1 (TX11 11).2.2.1 ∈ wsX11_takes := by decide +kernel
  obtain ⟨Q, hQ⟩ : ∃ Q, Q = gq_Qi below D A args s r_ [(h_t_, .inr (11, [.ref h_a, .ref h_fresh, .ref h_kept, .int v_keptMany, .int v_thrown, .ref h_buffer, .int v_buffered, .int v_size, .int w_at, .int w_behind, .int w_kind, .int w_wrong, .int w_wrongAt, .int v_errorAt, .long w_number, .ref h_worthFrom, .ref h_cutsFrom, .ref h_endFrom, .ref h_changes, .ref h_waysFrom, .int v_toCut, .int v_toLeave, .ref h_costAt, .ref h_places, .ref h_isCut, .ref h_written, .int v_writtenMany])), (h_buffer, .inl (cI, 900, .inl v_buffer))] 0 0 := ⟨_, rfl⟩
  rw [← hQ]
  refine gq_loc [(0, .ref h_t_), (1, .int x1), (2, .int x2)] rfl ?_
  have jb67 : ∀ (st_1 : Int32) (v_at_2 : Int32) (v_behind_3 : Int32) (v_kind_4 : Int32) (v_wrong_5 : Int32) (v_wrongAt_6 : Int32) (v_number_7 : Int64), F_X11_takes_b67 st_1 v_size v_at_2 v_behind_3 v_kind_4 v_wrong_5 v_wrongAt_6 v_number_7 v_buffer = some (r_, w_at, w_behind, w_kind, w_wrong, w_wrongAt, w_number) → Gx p l e (rmD 3) s m args below meth c D A 4 Q 0 0 67 [(0, .ref h_t_)] [.int st_1] [(h_t_, .inr (11, [.ref h_a, .ref h_fresh, .ref h_kept, .int v_keptMany, .int v_thrown, .ref h_buffer, .int v_buffered, .int v_size, .int v_at_2, .int v_behind_3, .int v_kind_4, .int v_wrong_5, .int v_wrongAt_6, .int v_errorAt, .long v_number_7, .ref h_worthFrom, .ref h_cutsFrom, .ref h_endFrom, .ref h_changes, .ref h_waysFrom, .int v_toCut, .int v_toLeave, .ref h_costAt, .ref h_places, .ref h_isCut, .ref h_written, .int v_writtenMany])), (h_buffer, .inl (cI, 900, .inl v_buffer))] := by
    intro st_1 v_at_2 v_behind_3 v_kind_4 v_wrong_5 v_wrongAt_6 v_number_7 hF
    unfold F_X11_takes_b67 at hF
    refine gq_istore_n hC [(3, .int st_1), (0, .ref h_t_)] dX11_takes_67 rfl (by decide) rfl ?_
    refine gq_aload_n hC 1 dX11_takes_68 rfl rfl ?_
    refine gq_get hC (kf := 11) 0 hin_X11 rfl rfl (by decide) hw_131 rfl dX11_takes_69 ?_
    refine gq_if_ne hC 79 dX11_takes_72 (by decide) (fun hc_12 => ?_) (fun hc_12 => ?_)
    · have hF := (if_neg hc_12).symm.trans hF
      refine gq_iload_n hC 0 dX11_takes_79 rfl rfl ?_
      cases hF
      rw [hQ]
      exact gq_iret hC rfl dX11_takes_80
    · have hF := (if_pos hc_12).symm.trans hF
      refine gq_aload_n hC 1 dX11_takes_75 rfl rfl ?_
      obtain ⟨v_at_8, v_behind_9, v_kind_10, v_number_11, hc_, hF⟩ := ob4_e hF
      refine gq_callVv hC [0, 1] [(h_t_, .inr (11, [.ref h_a, .ref h_fresh, .ref h_kept, .int v_keptMany, .int v_thrown, .ref h_buffer, .int v_buffered, .int v_size, .int v_at_8, .int v_behind_9, .int v_kind_10, .int v_wrong_5, .int v_wrongAt_6, .int v_errorAt, .long v_number_11, .ref h_worthFrom, .ref h_cutsFrom, .ref h_endFrom, .ref h_changes, .ref h_waysFrom, .int v_toCut, .int v_toLeave, .ref h_costAt, .ref h_places, .ref h_isCut, .ref h_written, .int v_writtenMany])), (h_buffer, .inl (cI, 900, .inl v_buffer))] [] [] (k_X11_next l D cI cJ cZ cO z h_t_ h_buffer h_a h_fresh h_kept h_worthFrom h_cutsFrom h_endFrom h_changes h_waysFrom h_costAt h_places h_isCut h_written v_keptMany v_thrown v_buffered v_size v_at_2 v_behind_3 v_kind_4 v_wrong_5 v_wrongAt_6 v_errorAt v_number_7 v_toCut v_toLeave v_writtenMany v_buffer v_at_8 v_behind_9 v_kind_10 v_number_11 hc_) gX11_takes_X11_next rfl ⟨rfl, rfl⟩ hy_X11_next ⟨Nat.le_of_ble_eq_true rfl, Nat.le_of_ble_eq_true rfl⟩ rfl rfl rfl (q0 := 0) rfl rfl rfl (Nat.le_of_ble_eq_true rfl) rfl dX11_takes_76 rfl rfl ?_
      refine gq_iload_n hC 0 dX11_takes_79 rfl rfl ?_
      cases hF
      rw [hQ]
      exact gq_iret hC rfl dX11_takes_80
  have jb51 : ∀ (v_at_13 : Int32) (v_behind_14 : Int32) (v_kind_15 : Int32) (v_wrong_16 : Int32) (v_wrongAt_17 : Int32) (v_number_18 : Int64), F_X11_takes_b51 v_size v_at_13 v_behind_14 v_kind_15 v_wrong_16 v_wrongAt_17 v_number_18 v_buffer = some (r_, w_at, w_behind, w_kind, w_wrong, w_wrongAt, w_number) → Gx p l e (rmD 3) s m args below meth c D A 4 Q 0 0 51 [(0, .ref h_t_)] [] [(h_t_, .inr (11, [.ref h_a, .ref h_fresh, .ref h_kept, .int v_keptMany, .int v_thrown, .ref h_buffer, .int v_buffered, .int v_size, .int v_at_13, .int v_behind_14, .int v_kind_15, .int v_wrong_16, .int v_wrongAt_17, .int v_errorAt, .long v_number_18, .ref h_worthFrom, .ref h_cutsFrom, .ref h_endFrom, .ref h_changes, .ref h_waysFrom, .int v_toCut, .int v_toLeave, .ref h_costAt, .ref h_places, .ref h_isCut, .ref h_written, .int v_writtenMany])), (h_buffer, .inl (cI, 900, .inl v_buffer))] := by
    intro v_at_13 v_behind_14 v_kind_15 v_wrong_16 v_wrongAt_17 v_number_18 hF
    unfold F_X11_takes_b51 at hF
    refine gq_aload_n hC 0 dX11_takes_51 rfl rfl ?_
    refine gq_get hC (kf := 11) 0 hin_X11 rfl rfl (by decide) hw_131 rfl dX11_takes_52 ?_
    refine gq_if_ne hC 66 dX11_takes_55 (by decide) (fun hc_19 => ?_) (fun hc_19 => ?_)
    · have hF := (if_neg hc_19).symm.trans hF
      refine gq_iconst hC (0 : Int32) dX11_takes_66 (by decide) ?_
      exact jb67 (0 : Int32) v_at_13 v_behind_14 v_kind_15 v_wrong_16 v_wrongAt_17 v_number_18 hF
    · have hF := (if_pos hc_19).symm.trans hF
      refine gq_aload_n hC 0 dX11_takes_58 rfl rfl ?_
      refine gq_get hC (kf := 14) 0 hin_X11 rfl rfl (by decide) hw_123 rfl dX11_takes_59 ?_
      refine gq_l2i hC dX11_takes_62 ?_
      refine gq_goto hC 67 dX11_takes_63 (by decide) ?_
      exact jb67 (v_number_18.toInt32) v_at_13 v_behind_14 v_kind_15 v_wrong_16 v_wrongAt_17 v_number_18 hF
  have jb24 : ∀ (v_at_20 : Int32) (v_behind_21 : Int32) (v_kind_22 : Int32) (v_wrong_23 : Int32) (v_wrongAt_24 : Int32) (v_number_25 : Int64), F_X11_takes_b24 x1 x2 v_size v_at_20 v_behind_21 v_kind_22 v_wrong_23 v_wrongAt_24 v_number_25 v_buffer = some (r_, w_at, w_behind, w_kind, w_wrong, w_wrongAt, w_number) → Gx p l e (rmD 3) s m args below meth c D A 4 Q 0 0 24 [(0, .ref h_t_), (1, .int x1), (2, .int x2)] [] [(h_t_, .inr (11, [.ref h_a, .ref h_fresh, .ref h_kept, .int v_keptMany, .int v_thrown, .ref h_buffer, .int v_buffered, .int v_size, .int v_at_20, .int v_behind_21, .int v_kind_22, .int v_wrong_23, .int v_wrongAt_24, .int v_errorAt, .long v_number_25, .ref h_worthFrom, .ref h_cutsFrom, .ref h_endFrom, .ref h_changes, .ref h_waysFrom, .int v_toCut, .int v_toLeave, .ref h_costAt, .ref h_places, .ref h_isCut, .ref h_written, .int v_writtenMany])), (h_buffer, .inl (cI, 900, .inl v_buffer))] := by
    intro v_at_20 v_behind_21 v_kind_22 v_wrong_23 v_wrongAt_24 v_number_25 hF
    unfold F_X11_takes_b24 at hF
    refine gq_aload_n hC 0 dX11_takes_24 rfl rfl ?_
    refine gq_get hC (kf := 11) 0 hin_X11 rfl rfl (by decide) hw_131 rfl dX11_takes_25 ?_
    refine gq_if_ne hC 51 dX11_takes_28 (by decide) (fun hc_30 => ?_) (fun hc_30 => ?_)
    · have hF := (if_neg hc_30).symm.trans hF
      refine gq_sub [(0, .ref h_t_)] [0] rfl ?_
      exact jb51 v_at_20 v_behind_21 v_kind_22 v_wrong_23 v_wrongAt_24 v_number_25 hF
    · have hF := (if_pos hc_30).symm.trans hF
      refine gq_aload_n hC 0 dX11_takes_31 rfl rfl ?_
      refine gq_get hC (kf := 14) 0 hin_X11 rfl rfl (by decide) hw_123 rfl dX11_takes_32 ?_
      refine gq_iload_n hC 1 dX11_takes_35 rfl rfl ?_
      refine gq_i2l hC dX11_takes_36 ?_
      refine gq_iload_n hC 2 dX11_takes_37 rfl rfl ?_
      refine gq_i2l hC dX11_takes_38 ?_
      obtain ⟨r_26, hc_, hF⟩ := ob1_e hF
      refine gq_callSi hC [] [(h_t_, .inr (11, [.ref h_a, .ref h_fresh, .ref h_kept, .int v_keptMany, .int v_thrown, .ref h_buffer, .int v_buffered, .int v_size, .int v_at_20, .int v_behind_21, .int v_kind_22, .int v_wrong_23, .int v_wrongAt_24, .int v_errorAt, .long v_number_25, .ref h_worthFrom, .ref h_cutsFrom, .ref h_endFrom, .ref h_changes, .ref h_waysFrom, .int v_toCut, .int v_toLeave, .ref h_costAt, .ref h_places, .ref h_isCut, .ref h_written, .int v_writtenMany])), (h_buffer, .inl (cI, 900, .inl v_buffer))] [.long v_number_25, .long (x1.toInt64), .long (x2.toInt64)] [] (k_X11_isIn l D cI cJ cZ cO z  v_number_25 (x1.toInt64) (x2.toInt64) r_26 hc_) gX11_takes_X11_isIn rfl ⟨rfl, rfl⟩ hy_X11_isIn rfl ⟨Nat.le_of_ble_eq_true rfl, Nat.le_of_ble_eq_true rfl⟩ rfl rfl rfl (Nat.le_of_ble_eq_true rfl) rfl dX11_takes_39 rfl rfl ?_
      refine gq_if_ne hC 51 dX11_takes_42 (by decide) (fun hc_29 => ?_) (fun hc_29 => ?_)
      · have hF := (if_neg hc_29).symm.trans hF
        refine gq_sub [(0, .ref h_t_)] [0] rfl ?_
        exact jb51 v_at_20 v_behind_21 v_kind_22 v_wrong_23 v_wrongAt_24 v_number_25 hF
      · have hF := (if_pos hc_29).symm.trans hF
        refine gq_aload_n hC 0 dX11_takes_45 rfl rfl ?_
        refine gq_bipush hC (-3 : Int32) dX11_takes_46 (by decide) ?_
        obtain ⟨v_wrong_27, v_wrongAt_28, hc_, hF⟩ := ob2_e hF
        refine gq_callVv hC [0] [(h_t_, .inr (11, [.ref h_a, .ref h_fresh, .ref h_kept, .int v_keptMany, .int v_thrown, .ref h_buffer, .int v_buffered, .int v_size, .int v_at_20, .int v_behind_21, .int v_kind_22, .int v_wrong_27, .int v_wrongAt_28, .int v_errorAt, .long v_number_25, .ref h_worthFrom, .ref h_cutsFrom, .ref h_endFrom, .ref h_changes, .ref h_waysFrom, .int v_toCut, .int v_toLeave, .ref h_costAt, .ref h_places, .ref h_isCut, .ref h_written, .int v_writtenMany])), (h_buffer, .inl (cI, 900, .inl v_buffer))] [.int (-3 : Int32)] [] (k_X11_fails l D cI cJ cZ cO z h_t_ h_a h_fresh h_kept h_buffer h_worthFrom h_cutsFrom h_endFrom h_changes h_waysFrom h_costAt h_places h_isCut h_written (-3 : Int32) v_keptMany v_thrown v_buffered v_size v_at_20 v_behind_21 v_kind_22 v_wrong_23 v_wrongAt_24 v_errorAt v_number_25 v_toCut v_toLeave v_writtenMany v_wrong_27 v_wrongAt_28 hc_) gX11_takes_X11_fails rfl ⟨rfl, rfl⟩ hy_X11_fails ⟨Nat.le_of_ble_eq_true rfl, Nat.le_of_ble_eq_true rfl⟩ rfl rfl rfl (q0 := 0) rfl rfl rfl (Nat.le_of_ble_eq_true rfl) rfl dX11_takes_48 rfl rfl ?_
        refine gq_sub [(0, .ref h_t_)] [0] rfl ?_
        exact jb51 v_at_20 v_behind_21 v_kind_22 v_wrong_27 v_wrongAt_28 v_number_25 hF
  unfold F_X11_takes at hF
  refine gq_aload_n hC 0 dX11_takes_0 rfl rfl ?_
  refine gq_get hC (kf := 11) 0 hin_X11 rfl rfl (by decide) hw_131 rfl dX11_takes_1 ?_
  refine gq_if_ne hC 24 dX11_takes_4 (by decide) (fun hc_34 => ?_) (fun hc_34 => ?_)
  · have hF := (if_neg hc_34).symm.trans hF
    exact jb24 v_at v_behind v_kind v_wrong v_wrongAt v_number hF
  · have hF := (if_pos hc_34).symm.trans hF
    refine gq_aload_n hC 0 dX11_takes_7 rfl rfl ?_
    refine gq_get hC (kf := 10) 0 hin_X11 rfl rfl (by decide) hw_113 rfl dX11_takes_8 ?_
    refine gq_iconst hC (1 : Int32) dX11_takes_11 (by decide) ?_
    refine gq_icmp_eq hC 24 dX11_takes_12 (by decide) (fun hc_33 => ?_) (fun hc_33 => ?_)
    · have hF := (if_pos hc_33).symm.trans hF
      exact jb24 v_at v_behind v_kind v_wrong v_wrongAt v_number hF
    · have hF := (if_neg hc_33).symm.trans hF
      refine gq_aload_n hC 0 dX11_takes_15 rfl rfl ?_
      refine gq_bipush hC (-2 : Int32) dX11_takes_16 (by decide) ?_
      obtain ⟨v_wrong_31, v_wrongAt_32, hc_, hF⟩ := ob2_e hF
      refine gq_callVv hC [0] [(h_t_, .inr (11, [.ref h_a, .ref h_fresh, .ref h_kept, .int v_keptMany, .int v_thrown, .ref h_buffer, .int v_buffered, .int v_size, .int v_at, .int v_behind, .int v_kind, .int v_wrong_31, .int v_wrongAt_32, .int v_errorAt, .long v_number, .ref h_worthFrom, .ref h_cutsFrom, .ref h_endFrom, .ref h_changes, .ref h_waysFrom, .int v_toCut, .int v_toLeave, .ref h_costAt, .ref h_places, .ref h_isCut, .ref h_written, .int v_writtenMany])), (h_buffer, .inl (cI, 900, .inl v_buffer))] [.int (-2 : Int32)] [] (k_X11_fails l D cI cJ cZ cO z h_t_ h_a h_fresh h_kept h_buffer h_worthFrom h_cutsFrom h_endFrom h_changes h_waysFrom h_costAt h_places h_isCut h_written (-2 : Int32) v_keptMany v_thrown v_buffered v_size v_at v_behind v_kind v_wrong v_wrongAt v_errorAt v_number v_toCut v_toLeave v_writtenMany v_wrong_31 v_wrongAt_32 hc_) gX11_takes_X11_fails rfl ⟨rfl, rfl⟩ hy_X11_fails ⟨Nat.le_of_ble_eq_true rfl, Nat.le_of_ble_eq_true rfl⟩ rfl rfl rfl (q0 := 0) rfl rfl rfl (Nat.le_of_ble_eq_true rfl) rfl dX11_takes_18 rfl rfl ?_
      refine gq_goto hC 51 dX11_takes_21 (by decide) ?_
      refine gq_sub [(0, .ref h_t_)] [0] rfl ?_
      exact jb51 v_at v_behind v_kind v_wrong_31 v_wrongAt_32 v_number hF
theorem hy_X11_takesWord : yX11_takesWord.cls = RX11 ∧ yX11_takesWord.cls ≠ "java/lang/invoke/MethodHandle" ∧ yX11_takesWord.cls ≠ "java/lang/invoke/VarHandle" ∧ (parseMethodDescriptor yX11_takesWord.desc).map (fun d => d.parameters.length) = some 1 := by decide +kernel
set_option maxRecDepth 20000 in
set_option maxHeartbeats 4000000 in
theorem k_X11_takesWord (l : Launch) (D : va_G) (cI cJ cZ cO : ClassId) (z : Nat → Nat)   (h_t_ : Nat) (h_fresh : Nat) (h_buffer : Nat) (h_a : Nat) (h_kept : Nat) (h_worthFrom : Nat) (h_cutsFrom : Nat) (h_endFrom : Nat) (h_changes : Nat) (h_waysFrom : Nat) (h_costAt : Nat) (h_places : Nat) (h_isCut : Nat) (h_written : Nat) (x1 : Int64) (v_keptMany : Int32) (v_thrown : Int32) (v_buffered : Int32) (v_size : Int32) (v_at : Int32) (v_behind : Int32) (v_kind : Int32) (v_wrong : Int32) (v_wrongAt : Int32) (v_errorAt : Int32) (v_number : Int64) (v_toCut : Int32) (v_toLeave : Int32) (v_writtenMany : Int32) (v_fresh : Nat → Int64) (v_buffer : Nat → Int32) (r_ : Int32) (w_at : Int32) (w_behind : Int32) (w_kind : Int32) (w_wrong : Int32) (w_wrongAt : Int32) (w_number : Int64) (w_fresh : Nat → Int64) (hF : F_X11_takesWord x1 v_size v_at v_behind v_kind v_wrong v_wrongAt v_number v_fresh v_buffer = some (r_, w_at, w_behind, w_kind, w_wrong, w_wrongAt, w_number, w_fresh)) : Mi l yX11_takesWord wsX11_takesWord (rmD 3) D (gq_ty cI cJ cZ cO) z [.ref h_t_, .long x1] [(h_t_, .inr (11, [.ref h_a, .ref h_fresh, .ref h_kept, .int v_keptMany, .int v_thrown, .ref h_buffer, .int v_buffered, .int v_size, .int v_at, .int v_behind, .int v_kind, .int v_wrong, .int v_wrongAt, .int v_errorAt, .long v_number, .ref h_worthFrom, .ref h_cutsFrom, .ref h_endFrom, .ref h_changes, .ref h_waysFrom, .int v_toCut, .int v_toLeave, .ref h_costAt, .ref h_places, .ref h_isCut, .ref h_written, .int v_writtenMany])), (h_fresh, .inl (cJ, 499, .inr (.inl v_fresh))), (h_buffer, .inl (cI, 900, .inl v_buffer))] r_ [(h_t_, .inr (11, [.ref h_a, .ref h_fresh, .ref h_kept, .int v_keptMany, .int v_thrown, .ref h_buffer, .int v_buffered, .int v_size, .int w_at, .int w_behind, .int w_kind, .int w_wrong, .int w_wrongAt, .int v_errorAt, .long w_number, .ref h_worthFrom, .ref h_cutsFrom, .ref h_endFrom, .ref h_changes, .ref h_waysFrom, .int v_toCut, .int v_toLeave, .ref h_costAt, .ref h_places, .ref h_isCut, .ref h_written, .int v_writtenMany])), (h_fresh, .inl (cJ, 499, .inr (.inl w_fresh))), (h_buffer, .inl (cI, 900, .inl v_buffer))] 0 0 := by
  refine Mi.of (cc := cX11_takesWord) (maxL := 7) (by decide) rfl (Nat.le_of_ble_eq_true rfl) ⟨Nat.le_refl 0, Nat.le_refl 0⟩ ?_
  intro p e s m args below meth c A hC ha
  have hin_X11 : ∀ w ∈ wsX110, w ∈ wsX11_takesWord := by decide +kernel
  have hw_13 : Cond.fieldLink RX11 13 (TX11 1).1 (TX11 1).2.1 (TX11 1).2.2.1 ∈ wsX11_takesWord := by decide +kernel
  have hw_19 : Cond.fieldLink RX11 19 (TX11 5).1 (TX11 5).2.1 (TX11 5).2.2.1 ∈ wsX11_takesWord := by decide +kernel
  have hw_103 : Cond.fieldLink RX11 103 (TX11 9).1 (TX11 9).2.1 (TX11 9).2.2.1 ∈ wsX11_takesWord := by decide +kernel
  have hw_106 : Cond.fieldLink RX11 106 (TX11 8).1 (TX11 8).2.1 (TX11 8).2.2.1 ∈ wsX11_takesWord := by decide +kernel
  have hw_113 : Cond.fieldLink RX11 113 (TX11 10).1 (TX11 10).2.1 (TX11 10).2.2.1 ∈ wsX11_takesWord := by decide +kernel
  have hw_131 : Cond.fieldLink RX11 131 (TX11 11).1 (TX11 11).2.1 (TX11 11).2.2.1 ∈ wsX11_takesWord := by decide +kernel
  obtain ⟨Q, hQ⟩ : ∃ Q, Q = gq_Qi below D A args s r_ [(h_t_, .inr (11, [.ref h_a, .ref h_fresh, .ref h_kept, .int v_keptMany, .int v_thrown, .ref h_buffer, .int v_buffered, .int v_size, .int w_at, .int w_behind, .int w_kind, .int w_wrong, .int w_wrongAt, .int v_errorAt, .long w_number, .ref h_worthFrom, .ref h_cutsFrom, .ref h_endFrom, .ref h_changes, .ref h_waysFrom, .int v_toCut, .int v_toLeave, .ref h_costAt, .ref h_places, .ref h_isCut, .ref h_written, .int v_writtenMany])), (h_fresh, .inl (cJ, 499, .inr (.inl w_fresh))), (h_buffer, .inl (cI, 900, .inl v_buffer))] 0 0 := ⟨_, rfl⟩
  rw [← hQ]
  refine gq_loc [(0, .ref h_t_), (1, .long x1)] rfl ?_
  have jb191 : ∀ (l6_1 : Int32) (v_at_2 : Int32) (v_behind_3 : Int32) (v_kind_4 : Int32) (v_wrong_5 : Int32) (v_wrongAt_6 : Int32) (v_number_7 : Int64) (v_fresh_8 : Nat → Int64), F_X11_takesWord_b191 l6_1 v_size v_at_2 v_behind_3 v_kind_4 v_wrong_5 v_wrongAt_6 v_number_7 v_fresh_8 v_buffer = some (r_, w_at, w_behind, w_kind, w_wrong, w_wrongAt, w_number, w_fresh) → Gx p l e (rmD 3) s m args below meth c D A 7 Q 0 0 191 [(0, .ref h_t_), (6, .int l6_1)] [] [(h_t_, .inr (11, [.ref h_a, .ref h_fresh, .ref h_kept, .int v_keptMany, .int v_thrown, .ref h_buffer, .int v_buffered, .int v_size, .int v_at_2, .int v_behind_3, .int v_kind_4, .int v_wrong_5, .int v_wrongAt_6, .int v_errorAt, .long v_number_7, .ref h_worthFrom, .ref h_cutsFrom, .ref h_endFrom, .ref h_changes, .ref h_waysFrom, .int v_toCut, .int v_toLeave, .ref h_costAt, .ref h_places, .ref h_isCut, .ref h_written, .int v_writtenMany])), (h_fresh, .inl (cJ, 499, .inr (.inl v_fresh_8))), (h_buffer, .inl (cI, 900, .inl v_buffer))] := by
    intro l6_1 v_at_2 v_behind_3 v_kind_4 v_wrong_5 v_wrongAt_6 v_number_7 v_fresh_8 hF
    unfold F_X11_takesWord_b191 at hF
    refine gq_aload_n hC 0 dX11_takesWord_191 rfl rfl ?_
    obtain ⟨v_at_9, v_behind_10, v_kind_11, v_number_12, hc_, hF⟩ := ob4_e hF
    refine gq_callVv hC [0, 2] [(h_t_, .inr (11, [.ref h_a, .ref h_fresh, .ref h_kept, .int v_keptMany, .int v_thrown, .ref h_buffer, .int v_buffered, .int v_size, .int v_at_9, .int v_behind_10, .int v_kind_11, .int v_wrong_5, .int v_wrongAt_6, .int v_errorAt, .long v_number_12, .ref h_worthFrom, .ref h_cutsFrom, .ref h_endFrom, .ref h_changes, .ref h_waysFrom, .int v_toCut, .int v_toLeave, .ref h_costAt, .ref h_places, .ref h_isCut, .ref h_written, .int v_writtenMany])), (h_fresh, .inl (cJ, 499, .inr (.inl v_fresh_8))), (h_buffer, .inl (cI, 900, .inl v_buffer))] [] [] (k_X11_next l D cI cJ cZ cO z h_t_ h_buffer h_a h_fresh h_kept h_worthFrom h_cutsFrom h_endFrom h_changes h_waysFrom h_costAt h_places h_isCut h_written v_keptMany v_thrown v_buffered v_size v_at_2 v_behind_3 v_kind_4 v_wrong_5 v_wrongAt_6 v_errorAt v_number_7 v_toCut v_toLeave v_writtenMany v_buffer v_at_9 v_behind_10 v_kind_11 v_number_12 hc_) gX11_takesWord_X11_next rfl ⟨rfl, rfl⟩ hy_X11_next ⟨Nat.le_of_ble_eq_true rfl, Nat.le_of_ble_eq_true rfl⟩ rfl rfl rfl (q0 := 0) rfl rfl rfl (Nat.le_of_ble_eq_true rfl) rfl dX11_takesWord_192 rfl rfl ?_
    refine gq_iload hC 1 dX11_takesWord_195 rfl ?_
    cases hF
    rw [hQ]
    exact gq_iret hC rfl dX11_takesWord_197
  have jb152 : ∀ (l3_13 : Int64) (l5_14 : Int32) (l6_15 : Int32) (v_at_16 : Int32) (v_behind_17 : Int32) (v_kind_18 : Int32) (v_wrong_19 : Int32) (v_wrongAt_20 : Int32) (v_number_21 : Int64) (v_fresh_22 : Nat → Int64), F_X11_takesWord_b152 l3_13 l5_14 l6_15 v_size v_at_16 v_behind_17 v_kind_18 v_wrong_19 v_wrongAt_20 v_number_21 v_fresh_22 v_buffer = some (r_, w_at, w_behind, w_kind, w_wrong, w_wrongAt, w_number, w_fresh) → Gx p l e (rmD 3) s m args below meth c D A 7 Q 0 0 152 [(0, .ref h_t_), (3, .long l3_13), (5, .int l5_14), (6, .int l6_15)] [] [(h_t_, .inr (11, [.ref h_a, .ref h_fresh, .ref h_kept, .int v_keptMany, .int v_thrown, .ref h_buffer, .int v_buffered, .int v_size, .int v_at_16, .int v_behind_17, .int v_kind_18, .int v_wrong_19, .int v_wrongAt_20, .int v_errorAt, .long v_number_21, .ref h_worthFrom, .ref h_cutsFrom, .ref h_endFrom, .ref h_changes, .ref h_waysFrom, .int v_toCut, .int v_toLeave, .ref h_costAt, .ref h_places, .ref h_isCut, .ref h_written, .int v_writtenMany])), (h_fresh, .inl (cJ, 499, .inr (.inl v_fresh_22))), (h_buffer, .inl (cI, 900, .inl v_buffer))] := by
    intro l3_13 l5_14 l6_15 v_at_16 v_behind_17 v_kind_18 v_wrong_19 v_wrongAt_20 v_number_21 v_fresh_22 hF
    unfold F_X11_takesWord_b152 at hF
    refine gq_aload_n hC 0 dX11_takesWord_152 rfl rfl ?_
    refine gq_get hC (kf := 11) 0 hin_X11 rfl rfl (by decide) hw_131 rfl dX11_takesWord_153 ?_
    refine gq_if_eq hC 161 dX11_takesWord_156 (by decide) (fun hc_27 => ?_) (fun hc_27 => ?_)
    · have hF := (if_pos hc_27).symm.trans hF
      refine gq_iload hC 3 dX11_takesWord_161 rfl ?_
      refine gq_iload hC 2 dX11_takesWord_163 rfl ?_
      refine gq_icmp_ne hC 191 dX11_takesWord_165 (by decide) (fun hc_26 => ?_) (fun hc_26 => ?_)
      · have hF := (if_neg hc_26).symm.trans hF
        refine gq_sub [(0, .ref h_t_), (6, .int l6_15)] [0, 3] rfl ?_
        exact jb191 l6_15 v_at_16 v_behind_17 v_kind_18 v_wrong_19 v_wrongAt_20 v_number_21 v_fresh_22 hF
      · have hF := (if_pos hc_26).symm.trans hF
        refine gq_aload_n hC 0 dX11_takesWord_168 rfl rfl ?_
        refine gq_get hC (kf := 1) 0 hin_X11 rfl rfl (by decide) hw_13 rfl dX11_takesWord_169 ?_
        refine gq_sipush hC (475 : Int32) dX11_takesWord_172 (by decide) ?_
        refine gq_iload hC 2 dX11_takesWord_175 rfl ?_
        refine gq_iadd hC dX11_takesWord_177 ?_
        refine gq_lload_n hC 1 dX11_takesWord_178 rfl rfl ?_
        obtain ⟨hi_23, hF⟩ := gi_e hF
        refine gq_last hC 1 1 [(h_t_, .inr (11, [.ref h_a, .ref h_fresh, .ref h_kept, .int v_keptMany, .int v_thrown, .ref h_buffer, .int v_buffered, .int v_size, .int v_at_16, .int v_behind_17, .int v_kind_18, .int v_wrong_19, .int v_wrongAt_20, .int v_errorAt, .long v_number_21, .ref h_worthFrom, .ref h_cutsFrom, .ref h_endFrom, .ref h_changes, .ref h_waysFrom, .int v_toCut, .int v_toLeave, .ref h_costAt, .ref h_places, .ref h_isCut, .ref h_written, .int v_writtenMany])), (h_fresh, .inl (cJ, 499, .inr (.inl (vp_updL v_fresh_22 ((475 : Int32) + l5_14).toNatClampNeg l3_13)))), (h_buffer, .inl (cI, 900, .inl v_buffer))] rfl rfl hi_23 dX11_takesWord_179 rfl ?_
        refine gq_aload_n hC 0 dX11_takesWord_180 rfl rfl ?_
        refine gq_get hC (kf := 1) 0 hin_X11 rfl rfl (by decide) hw_13 rfl dX11_takesWord_181 ?_
        refine gq_bipush hC (7 : Int32) dX11_takesWord_184 (by decide) ?_
        refine gq_dup2 hC dX11_takesWord_186 rfl rfl ?_
        obtain ⟨hi_24, hF⟩ := gi_e hF
        refine gq_lald hC 1 1 rfl rfl hi_24 dX11_takesWord_187 ?_
        refine gq_lconst hC (1 : Int64) dX11_takesWord_188 (by decide) ?_
        refine gq_ladd hC dX11_takesWord_189 ?_
        obtain ⟨hi_25, hF⟩ := gi_e hF
        refine gq_last hC 1 1 [(h_t_, .inr (11, [.ref h_a, .ref h_fresh, .ref h_kept, .int v_keptMany, .int v_thrown, .ref h_buffer, .int v_buffered, .int v_size, .int v_at_16, .int v_behind_17, .int v_kind_18, .int v_wrong_19, .int v_wrongAt_20, .int v_errorAt, .long v_number_21, .ref h_worthFrom, .ref h_cutsFrom, .ref h_endFrom, .ref h_changes, .ref h_waysFrom, .int v_toCut, .int v_toLeave, .ref h_costAt, .ref h_places, .ref h_isCut, .ref h_written, .int v_writtenMany])), (h_fresh, .inl (cJ, 499, .inr (.inl (vp_updL (vp_updL v_fresh_22 ((475 : Int32) + l5_14).toNatClampNeg l3_13) (7 : Int32).toNatClampNeg (((vp_updL v_fresh_22 ((475 : Int32) + l5_14).toNatClampNeg l3_13) (7 : Int32).toNatClampNeg) + (1 : Int64)))))), (h_buffer, .inl (cI, 900, .inl v_buffer))] rfl rfl hi_25 dX11_takesWord_190 rfl ?_
        refine gq_sub [(0, .ref h_t_), (6, .int l6_15)] [0, 3] rfl ?_
        exact jb191 l6_15 v_at_16 v_behind_17 v_kind_18 v_wrong_19 v_wrongAt_20 v_number_21 (vp_updL (vp_updL v_fresh_22 ((475 : Int32) + l5_14).toNatClampNeg l3_13) (7 : Int32).toNatClampNeg (((vp_updL v_fresh_22 ((475 : Int32) + l5_14).toNatClampNeg l3_13) (7 : Int32).toNatClampNeg) + (1 : Int64))) hF
    · have hF := (if_neg hc_27).symm.trans hF
      refine gq_iconst hC (0 : Int32) dX11_takesWord_159 (by decide) ?_
      cases hF
      rw [hQ]
      exact gq_iret hC rfl dX11_takesWord_160
  have jb139 : ∀ (l3_28 : Int64) (l5_29 : Int32) (l6_30 : Int32) (v_at_31 : Int32) (v_behind_32 : Int32) (v_kind_33 : Int32) (v_wrong_34 : Int32) (v_wrongAt_35 : Int32) (v_number_36 : Int64) (v_fresh_37 : Nat → Int64), F_X11_takesWord_b139 l3_28 l5_29 l6_30 v_size v_at_31 v_behind_32 v_kind_33 v_wrong_34 v_wrongAt_35 v_number_36 v_fresh_37 v_buffer = some (r_, w_at, w_behind, w_kind, w_wrong, w_wrongAt, w_number, w_fresh) → Gx p l e (rmD 3) s m args below meth c D A 7 Q 0 0 139 [(0, .ref h_t_), (3, .long l3_28), (5, .int l5_29), (6, .int l6_30)] [] [(h_t_, .inr (11, [.ref h_a, .ref h_fresh, .ref h_kept, .int v_keptMany, .int v_thrown, .ref h_buffer, .int v_buffered, .int v_size, .int v_at_31, .int v_behind_32, .int v_kind_33, .int v_wrong_34, .int v_wrongAt_35, .int v_errorAt, .long v_number_36, .ref h_worthFrom, .ref h_cutsFrom, .ref h_endFrom, .ref h_changes, .ref h_waysFrom, .int v_toCut, .int v_toLeave, .ref h_costAt, .ref h_places, .ref h_isCut, .ref h_written, .int v_writtenMany])), (h_fresh, .inl (cJ, 499, .inr (.inl v_fresh_37))), (h_buffer, .inl (cI, 900, .inl v_buffer))] := by
    intro l3_28 l5_29 l6_30 v_at_31 v_behind_32 v_kind_33 v_wrong_34 v_wrongAt_35 v_number_36 v_fresh_37 hF
    unfold F_X11_takesWord_b139 at hF
    refine gq_iload hC 3 dX11_takesWord_139 rfl ?_
    refine gq_bipush hC (24 : Int32) dX11_takesWord_141 (by decide) ?_
    refine gq_icmp_ne hC 152 dX11_takesWord_143 (by decide) (fun hc_40 => ?_) (fun hc_40 => ?_)
    · have hF := (if_neg hc_40).symm.trans hF
      exact jb152 l3_28 l5_29 l6_30 v_at_31 v_behind_32 v_kind_33 v_wrong_34 v_wrongAt_35 v_number_36 v_fresh_37 hF
    · have hF := (if_pos hc_40).symm.trans hF
      refine gq_aload_n hC 0 dX11_takesWord_146 rfl rfl ?_
      refine gq_bipush hC (-4 : Int32) dX11_takesWord_147 (by decide) ?_
      obtain ⟨v_wrong_38, v_wrongAt_39, hc_, hF⟩ := ob2_e hF
      refine gq_callVv hC [0] [(h_t_, .inr (11, [.ref h_a, .ref h_fresh, .ref h_kept, .int v_keptMany, .int v_thrown, .ref h_buffer, .int v_buffered, .int v_size, .int v_at_31, .int v_behind_32, .int v_kind_33, .int v_wrong_38, .int v_wrongAt_39, .int v_errorAt, .long v_number_36, .ref h_worthFrom, .ref h_cutsFrom, .ref h_endFrom, .ref h_changes, .ref h_waysFrom, .int v_toCut, .int v_toLeave, .ref h_costAt, .ref h_places, .ref h_isCut, .ref h_written, .int v_writtenMany])), (h_fresh, .inl (cJ, 499, .inr (.inl v_fresh_37))), (h_buffer, .inl (cI, 900, .inl v_buffer))] [.int (-4 : Int32)] [] (k_X11_fails l D cI cJ cZ cO z h_t_ h_a h_fresh h_kept h_buffer h_worthFrom h_cutsFrom h_endFrom h_changes h_waysFrom h_costAt h_places h_isCut h_written (-4 : Int32) v_keptMany v_thrown v_buffered v_size v_at_31 v_behind_32 v_kind_33 v_wrong_34 v_wrongAt_35 v_errorAt v_number_36 v_toCut v_toLeave v_writtenMany v_wrong_38 v_wrongAt_39 hc_) gX11_takesWord_X11_fails rfl ⟨rfl, rfl⟩ hy_X11_fails ⟨Nat.le_of_ble_eq_true rfl, Nat.le_of_ble_eq_true rfl⟩ rfl rfl rfl (q0 := 0) rfl rfl rfl (Nat.le_of_ble_eq_true rfl) rfl dX11_takesWord_149 rfl rfl ?_
      exact jb152 l3_28 l5_29 l6_30 v_at_31 v_behind_32 v_kind_33 v_wrong_38 v_wrongAt_39 v_number_36 v_fresh_37 hF
  have jb97 : ∀ (l3_41 : Int64) (v_at_42 : Int32) (v_behind_43 : Int32) (v_kind_44 : Int32) (v_wrong_45 : Int32) (v_wrongAt_46 : Int32) (v_number_47 : Int64) (v_fresh_48 : Nat → Int64), F_X11_takesWord_b97 l3_41 v_size v_at_42 v_behind_43 v_kind_44 v_wrong_45 v_wrongAt_46 v_number_47 v_fresh_48 v_buffer = some (r_, w_at, w_behind, w_kind, w_wrong, w_wrongAt, w_number, w_fresh) → Gx p l e (rmD 3) s m args below meth c D A 7 Q 0 0 97 [(0, .ref h_t_), (3, .long l3_41)] [] [(h_t_, .inr (11, [.ref h_a, .ref h_fresh, .ref h_kept, .int v_keptMany, .int v_thrown, .ref h_buffer, .int v_buffered, .int v_size, .int v_at_42, .int v_behind_43, .int v_kind_44, .int v_wrong_45, .int v_wrongAt_46, .int v_errorAt, .long v_number_47, .ref h_worthFrom, .ref h_cutsFrom, .ref h_endFrom, .ref h_changes, .ref h_waysFrom, .int v_toCut, .int v_toLeave, .ref h_costAt, .ref h_places, .ref h_isCut, .ref h_written, .int v_writtenMany])), (h_fresh, .inl (cJ, 499, .inr (.inl v_fresh_48))), (h_buffer, .inl (cI, 900, .inl v_buffer))] := by
    intro l3_41 v_at_42 v_behind_43 v_kind_44 v_wrong_45 v_wrongAt_46 v_number_47 v_fresh_48 hF
    unfold F_X11_takesWord_b97 at hF
    refine gq_aload_n hC 0 dX11_takesWord_97 rfl rfl ?_
    refine gq_get hC (kf := 1) 0 hin_X11 rfl rfl (by decide) hw_13 rfl dX11_takesWord_98 ?_
    refine gq_bipush hC (7 : Int32) dX11_takesWord_101 (by decide) ?_
    obtain ⟨hi_49, hF⟩ := gi_e hF
    refine gq_lald hC 1 1 rfl rfl hi_49 dX11_takesWord_103 ?_
    refine gq_l2i hC dX11_takesWord_104 ?_
    refine gq_istore hC [(5, .int ((v_fresh_48 (7 : Int32).toNatClampNeg).toInt32)), (0, .ref h_t_), (3, .long l3_41)] dX11_takesWord_105 (by decide) rfl ?_
    refine gq_iconst hC (0 : Int32) dX11_takesWord_107 (by decide) ?_
    refine gq_istore hC [(6, .int (0 : Int32)), (5, .int ((v_fresh_48 (7 : Int32).toNatClampNeg).toInt32)), (0, .ref h_t_), (3, .long l3_41)] dX11_takesWord_108 (by decide) rfl ?_
    have lp110 : ∀ (l3_50 : Int64) (l5_51 : Int32) (v_at_53 : Int32) (v_behind_54 : Int32) (v_kind_55 : Int32) (v_wrong_56 : Int32) (v_wrongAt_57 : Int32) (v_number_58 : Int64) (v_fresh_59 : Nat → Int64), ∀ (e_63 : Int32), Gx p l e (rmD 3) s m args below meth c D A 7 Q 0 0 139 [(0, .ref h_t_), (3, .long l3_50), (5, .int l5_51), (6, .int e_63)] [] [(h_t_, .inr (11, [.ref h_a, .ref h_fresh, .ref h_kept, .int v_keptMany, .int v_thrown, .ref h_buffer, .int v_buffered, .int v_size, .int v_at_53, .int v_behind_54, .int v_kind_55, .int v_wrong_56, .int v_wrongAt_57, .int v_errorAt, .long v_number_58, .ref h_worthFrom, .ref h_cutsFrom, .ref h_endFrom, .ref h_changes, .ref h_waysFrom, .int v_toCut, .int v_toLeave, .ref h_costAt, .ref h_places, .ref h_isCut, .ref h_written, .int v_writtenMany])), (h_fresh, .inl (cJ, 499, .inr (.inl v_fresh_59))), (h_buffer, .inl (cI, 900, .inl v_buffer))] → ∀ (N : Nat) (l6_52 : Int32), wh (fun k q => S_X11_takesWord_110 l3_50 l5_51 v_size v_at_53 v_behind_54 v_kind_55 v_wrong_56 v_wrongAt_57 v_number_58 v_fresh_59 v_buffer k q) N l6_52 = some e_63 → Gx p l e (rmD 3) s m args below meth c D A 7 Q 0 0 110 [(0, .ref h_t_), (3, .long l3_50), (5, .int l5_51), (6, .int l6_52)] [] [(h_t_, .inr (11, [.ref h_a, .ref h_fresh, .ref h_kept, .int v_keptMany, .int v_thrown, .ref h_buffer, .int v_buffered, .int v_size, .int v_at_53, .int v_behind_54, .int v_kind_55, .int v_wrong_56, .int v_wrongAt_57, .int v_errorAt, .long v_number_58, .ref h_worthFrom, .ref h_cutsFrom, .ref h_endFrom, .ref h_changes, .ref h_waysFrom, .int v_toCut, .int v_toLeave, .ref h_costAt, .ref h_places, .ref h_isCut, .ref h_written, .int v_writtenMany])), (h_fresh, .inl (cJ, 499, .inr (.inl v_fresh_59))), (h_buffer, .inl (cI, 900, .inl v_buffer))] := by
      intro l3_50 l5_51 v_at_53 v_behind_54 v_kind_55 v_wrong_56 v_wrongAt_57 v_number_58 v_fresh_59 e_63 hx0 N
      induction N with
      | zero => intro l6_52 hw; exact absurd hw (wh_0 _ _ _)
      | succ N ih =>
        intro l6_52 hw
        have hF : S_X11_takesWord_110 l3_50 l5_51 v_size v_at_53 v_behind_54 v_kind_55 v_wrong_56 v_wrongAt_57 v_number_58 v_fresh_59 v_buffer (wh (fun k q => S_X11_takesWord_110 l3_50 l5_51 v_size v_at_53 v_behind_54 v_kind_55 v_wrong_56 v_wrongAt_57 v_number_58 v_fresh_59 v_buffer k q) N) l6_52 = some e_63 := hw
        unfold S_X11_takesWord_110 at hF
        refine gq_iload hC 3 dX11_takesWord_110 rfl ?_
        refine gq_iload hC 2 dX11_takesWord_112 rfl ?_
        refine gq_icmp_ge hC 139 dX11_takesWord_114 (by decide) (fun hc_62 => ?_) (fun hc_62 => ?_)
        · have hF := (if_pos hc_62).symm.trans hF
          cases hF
          exact hx0
        · have hF := (if_neg hc_62).symm.trans hF
          refine gq_aload_n hC 0 dX11_takesWord_117 rfl rfl ?_
          refine gq_get hC (kf := 1) 0 hin_X11 rfl rfl (by decide) hw_13 rfl dX11_takesWord_118 ?_
          refine gq_sipush hC (475 : Int32) dX11_takesWord_121 (by decide) ?_
          refine gq_iload hC 3 dX11_takesWord_124 rfl ?_
          refine gq_iadd hC dX11_takesWord_126 ?_
          obtain ⟨hi_60, hF⟩ := gi_e hF
          refine gq_lald hC 1 1 rfl rfl hi_60 dX11_takesWord_127 ?_
          refine gq_lload_n hC 1 dX11_takesWord_128 rfl rfl ?_
          refine gq_lcmp hC dX11_takesWord_129 ?_
          refine gq_if_eq hC 139 dX11_takesWord_130 (by decide) (fun hc_61 => ?_) (fun hc_61 => ?_)
          · have hF := (if_pos hc_61).symm.trans hF
            cases hF
            exact hx0
          · have hF := (if_neg hc_61).symm.trans hF
            refine gq_iinc hC 3 (l6_52 + (1 : Int32)) [(6, .int (l6_52 + (1 : Int32))), (0, .ref h_t_), (3, .long l3_50), (5, .int l5_51)] dX11_takesWord_133 rfl rfl (by decide) rfl ?_
            refine gq_goto hC 110 dX11_takesWord_136 (by decide) ?_
            refine gq_sub [(0, .ref h_t_), (3, .long l3_50), (5, .int l5_51), (6, .int (l6_52 + (1 : Int32)))] [1, 2, 3, 0] rfl ?_
            exact ih (l6_52 + (1 : Int32)) hF
    refine gq_sub [(0, .ref h_t_), (3, .long l3_41), (5, .int ((v_fresh_48 (7 : Int32).toNatClampNeg).toInt32)), (6, .int (0 : Int32))] [2, 3, 1, 0] rfl ?_
    obtain ⟨e_64, hw_, hF⟩ := ob1_e hF
    refine lp110 l3_41 ((v_fresh_48 (7 : Int32).toNatClampNeg).toInt32) v_at_42 v_behind_43 v_kind_44 v_wrong_45 v_wrongAt_46 v_number_47 v_fresh_48 e_64 ?_ wF (0 : Int32) hw_
    exact jb139 l3_41 ((v_fresh_48 (7 : Int32).toNatClampNeg).toInt32) e_64 v_at_42 v_behind_43 v_kind_44 v_wrong_45 v_wrongAt_46 v_number_47 v_fresh_48 hF
  have jb48 : ∀ (v_at_65 : Int32) (v_behind_66 : Int32) (v_kind_67 : Int32) (v_wrong_68 : Int32) (v_wrongAt_69 : Int32) (v_number_70 : Int64) (v_fresh_71 : Nat → Int64), F_X11_takesWord_b48 v_size v_at_65 v_behind_66 v_kind_67 v_wrong_68 v_wrongAt_69 v_number_70 v_fresh_71 v_buffer = some (r_, w_at, w_behind, w_kind, w_wrong, w_wrongAt, w_number, w_fresh) → Gx p l e (rmD 3) s m args below meth c D A 7 Q 0 0 48 [(0, .ref h_t_)] [] [(h_t_, .inr (11, [.ref h_a, .ref h_fresh, .ref h_kept, .int v_keptMany, .int v_thrown, .ref h_buffer, .int v_buffered, .int v_size, .int v_at_65, .int v_behind_66, .int v_kind_67, .int v_wrong_68, .int v_wrongAt_69, .int v_errorAt, .long v_number_70, .ref h_worthFrom, .ref h_cutsFrom, .ref h_endFrom, .ref h_changes, .ref h_waysFrom, .int v_toCut, .int v_toLeave, .ref h_costAt, .ref h_places, .ref h_isCut, .ref h_written, .int v_writtenMany])), (h_fresh, .inl (cJ, 499, .inr (.inl v_fresh_71))), (h_buffer, .inl (cI, 900, .inl v_buffer))] := by
    intro v_at_65 v_behind_66 v_kind_67 v_wrong_68 v_wrongAt_69 v_number_70 v_fresh_71 hF
    unfold F_X11_takesWord_b48 at hF
    refine gq_lconst hC (0 : Int64) dX11_takesWord_48 (by decide) ?_
    refine gq_lstore_n hC [(3, .long (0 : Int64)), (0, .ref h_t_)] dX11_takesWord_49 rfl (by decide) rfl ?_
    refine gq_aload_n hC 1 dX11_takesWord_50 rfl rfl ?_
    refine gq_get hC (kf := 8) 0 hin_X11 rfl rfl (by decide) hw_106 rfl dX11_takesWord_51 ?_
    refine gq_istore hC [(5, .int v_at_65), (3, .long (0 : Int64)), (0, .ref h_t_)] dX11_takesWord_54 (by decide) rfl ?_
    have lp56 : ∀ (v_at_74 : Int32) (v_behind_75 : Int32) (v_kind_76 : Int32) (v_wrong_77 : Int32) (v_wrongAt_78 : Int32) (v_number_79 : Int64) (v_fresh_80 : Nat → Int64), ∀ (e_84 : Int64), Gx p l e (rmD 3) s m args below meth c D A 7 Q 0 0 97 [(0, .ref h_t_), (3, .long e_84)] [] [(h_t_, .inr (11, [.ref h_a, .ref h_fresh, .ref h_kept, .int v_keptMany, .int v_thrown, .ref h_buffer, .int v_buffered, .int v_size, .int v_at_74, .int v_behind_75, .int v_kind_76, .int v_wrong_77, .int v_wrongAt_78, .int v_errorAt, .long v_number_79, .ref h_worthFrom, .ref h_cutsFrom, .ref h_endFrom, .ref h_changes, .ref h_waysFrom, .int v_toCut, .int v_toLeave, .ref h_costAt, .ref h_places, .ref h_isCut, .ref h_written, .int v_writtenMany])), (h_fresh, .inl (cJ, 499, .inr (.inl v_fresh_80))), (h_buffer, .inl (cI, 900, .inl v_buffer))] → ∀ (N : Nat) (l3_72 : Int64) (l5_73 : Int32), wh (fun k q => S_X11_takesWord_56 v_size v_at_74 v_behind_75 v_kind_76 v_wrong_77 v_wrongAt_78 v_number_79 v_fresh_80 v_buffer k q.1 q.2) N (l3_72, l5_73) = some e_84 → Gx p l e (rmD 3) s m args below meth c D A 7 Q 0 0 56 [(0, .ref h_t_), (3, .long l3_72), (5, .int l5_73)] [] [(h_t_, .inr (11, [.ref h_a, .ref h_fresh, .ref h_kept, .int v_keptMany, .int v_thrown, .ref h_buffer, .int v_buffered, .int v_size, .int v_at_74, .int v_behind_75, .int v_kind_76, .int v_wrong_77, .int v_wrongAt_78, .int v_errorAt, .long v_number_79, .ref h_worthFrom, .ref h_cutsFrom, .ref h_endFrom, .ref h_changes, .ref h_waysFrom, .int v_toCut, .int v_toLeave, .ref h_costAt, .ref h_places, .ref h_isCut, .ref h_written, .int v_writtenMany])), (h_fresh, .inl (cJ, 499, .inr (.inl v_fresh_80))), (h_buffer, .inl (cI, 900, .inl v_buffer))] := by
      intro v_at_74 v_behind_75 v_kind_76 v_wrong_77 v_wrongAt_78 v_number_79 v_fresh_80 e_84 hx0 N
      induction N with
      | zero => intro l3_72 l5_73 hw; exact absurd hw (wh_0 _ _ _)
      | succ N ih =>
        intro l3_72 l5_73 hw
        have hF : S_X11_takesWord_56 v_size v_at_74 v_behind_75 v_kind_76 v_wrong_77 v_wrongAt_78 v_number_79 v_fresh_80 v_buffer (wh (fun k q => S_X11_takesWord_56 v_size v_at_74 v_behind_75 v_kind_76 v_wrong_77 v_wrongAt_78 v_number_79 v_fresh_80 v_buffer k q.1 q.2) N) l3_72 l5_73 = some e_84 := hw
        unfold S_X11_takesWord_56 at hF
        refine gq_aload_n hC 0 dX11_takesWord_56 rfl rfl ?_
        refine gq_get hC (kf := 11) 0 hin_X11 rfl rfl (by decide) hw_131 rfl dX11_takesWord_57 ?_
        refine gq_if_ne hC 97 dX11_takesWord_60 (by decide) (fun hc_83 => ?_) (fun hc_83 => ?_)
        · have hF := (if_neg hc_83).symm.trans hF
          refine gq_sub [(0, .ref h_t_), (3, .long l3_72)] [0, 1] rfl ?_
          cases hF
          exact hx0
        · have hF := (if_pos hc_83).symm.trans hF
          refine gq_iload hC 2 dX11_takesWord_63 rfl ?_
          refine gq_aload_n hC 0 dX11_takesWord_65 rfl rfl ?_
          refine gq_get hC (kf := 9) 0 hin_X11 rfl rfl (by decide) hw_103 rfl dX11_takesWord_66 ?_
          refine gq_icmp_ge hC 97 dX11_takesWord_69 (by decide) (fun hc_82 => ?_) (fun hc_82 => ?_)
          · have hF := (if_pos hc_82).symm.trans hF
            refine gq_sub [(0, .ref h_t_), (3, .long l3_72)] [0, 1] rfl ?_
            cases hF
            exact hx0
          · have hF := (if_neg hc_82).symm.trans hF
            refine gq_ldc2 hC (32 : Int64) dX11_takesWord_72 (by decide +kernel) ?_
            refine gq_lload_n hC 1 dX11_takesWord_75 rfl rfl ?_
            refine gq_lmul hC dX11_takesWord_76 ?_
            refine gq_aload_n hC 0 dX11_takesWord_77 rfl rfl ?_
            refine gq_get hC (kf := 5) 0 hin_X11 rfl rfl (by decide) hw_19 rfl dX11_takesWord_78 ?_
            refine gq_iload hC 2 dX11_takesWord_81 rfl ?_
            obtain ⟨hi_81, hF⟩ := gi_e hF
            refine gq_iald hC 2 0 rfl rfl hi_81 dX11_takesWord_83 ?_
            refine gq_i2l hC dX11_takesWord_84 ?_
            refine gq_ladd hC dX11_takesWord_85 ?_
            refine gq_ldc2 hC (96 : Int64) dX11_takesWord_86 (by decide +kernel) ?_
            refine gq_lsub hC dX11_takesWord_89 ?_
            refine gq_lstore_n hC [(3, .long ((((32 : Int64) * l3_72) + ((v_buffer l5_73.toNatClampNeg).toInt64)) - (96 : Int64))), (0, .ref h_t_), (5, .int l5_73)] dX11_takesWord_90 rfl (by decide) rfl ?_
            refine gq_iinc hC 2 (l5_73 + (1 : Int32)) [(5, .int (l5_73 + (1 : Int32))), (3, .long ((((32 : Int64) * l3_72) + ((v_buffer l5_73.toNatClampNeg).toInt64)) - (96 : Int64))), (0, .ref h_t_)] dX11_takesWord_91 rfl rfl (by decide) rfl ?_
            refine gq_goto hC 56 dX11_takesWord_94 (by decide) ?_
            refine gq_sub [(0, .ref h_t_), (3, .long ((((32 : Int64) * l3_72) + ((v_buffer l5_73.toNatClampNeg).toInt64)) - (96 : Int64))), (5, .int (l5_73 + (1 : Int32)))] [2, 1, 0] rfl ?_
            exact ih ((((32 : Int64) * l3_72) + ((v_buffer l5_73.toNatClampNeg).toInt64)) - (96 : Int64)) (l5_73 + (1 : Int32)) hF
    refine gq_sub [(0, .ref h_t_), (3, .long (0 : Int64)), (5, .int v_at_65)] [2, 1, 0] rfl ?_
    obtain ⟨e_85, hw_, hF⟩ := ob1_e hF
    refine lp56 v_at_65 v_behind_66 v_kind_67 v_wrong_68 v_wrongAt_69 v_number_70 v_fresh_71 e_85 ?_ wF (0 : Int64) v_at_65 hw_
    exact jb97 e_85 v_at_65 v_behind_66 v_kind_67 v_wrong_68 v_wrongAt_69 v_number_70 v_fresh_71 hF
  have jb34 : ∀ (v_at_86 : Int32) (v_behind_87 : Int32) (v_kind_88 : Int32) (v_wrong_89 : Int32) (v_wrongAt_90 : Int32) (v_number_91 : Int64) (v_fresh_92 : Nat → Int64), F_X11_takesWord_b34 x1 v_size v_at_86 v_behind_87 v_kind_88 v_wrong_89 v_wrongAt_90 v_number_91 v_fresh_92 v_buffer = some (r_, w_at, w_behind, w_kind, w_wrong, w_wrongAt, w_number, w_fresh) → Gx p l e (rmD 3) s m args below meth c D A 7 Q 0 0 34 [(0, .ref h_t_), (1, .long x1)] [] [(h_t_, .inr (11, [.ref h_a, .ref h_fresh, .ref h_kept, .int v_keptMany, .int v_thrown, .ref h_buffer, .int v_buffered, .int v_size, .int v_at_86, .int v_behind_87, .int v_kind_88, .int v_wrong_89, .int v_wrongAt_90, .int v_errorAt, .long v_number_91, .ref h_worthFrom, .ref h_cutsFrom, .ref h_endFrom, .ref h_changes, .ref h_waysFrom, .int v_toCut, .int v_toLeave, .ref h_costAt, .ref h_places, .ref h_isCut, .ref h_written, .int v_writtenMany])), (h_fresh, .inl (cJ, 499, .inr (.inl v_fresh_92))), (h_buffer, .inl (cI, 900, .inl v_buffer))] := by
    intro v_at_86 v_behind_87 v_kind_88 v_wrong_89 v_wrongAt_90 v_number_91 v_fresh_92 hF
    unfold F_X11_takesWord_b34 at hF
    refine gq_lload_n hC 1 dX11_takesWord_34 rfl rfl ?_
    refine gq_ldc2 hC (8 : Int64) dX11_takesWord_35 (by decide +kernel) ?_
    refine gq_lcmp hC dX11_takesWord_38 ?_
    refine gq_if_ne hC 48 dX11_takesWord_39 (by decide) (fun hc_95 => ?_) (fun hc_95 => ?_)
    · have hF := (if_neg hc_95).symm.trans hF
      refine gq_sub [(0, .ref h_t_)] [0] rfl ?_
      exact jb48 v_at_86 v_behind_87 v_kind_88 v_wrong_89 v_wrongAt_90 v_number_91 v_fresh_92 hF
    · have hF := (if_pos hc_95).symm.trans hF
      refine gq_aload_n hC 0 dX11_takesWord_42 rfl rfl ?_
      refine gq_bipush hC (-4 : Int32) dX11_takesWord_43 (by decide) ?_
      obtain ⟨v_wrong_93, v_wrongAt_94, hc_, hF⟩ := ob2_e hF
      refine gq_callVv hC [0] [(h_t_, .inr (11, [.ref h_a, .ref h_fresh, .ref h_kept, .int v_keptMany, .int v_thrown, .ref h_buffer, .int v_buffered, .int v_size, .int v_at_86, .int v_behind_87, .int v_kind_88, .int v_wrong_93, .int v_wrongAt_94, .int v_errorAt, .long v_number_91, .ref h_worthFrom, .ref h_cutsFrom, .ref h_endFrom, .ref h_changes, .ref h_waysFrom, .int v_toCut, .int v_toLeave, .ref h_costAt, .ref h_places, .ref h_isCut, .ref h_written, .int v_writtenMany])), (h_fresh, .inl (cJ, 499, .inr (.inl v_fresh_92))), (h_buffer, .inl (cI, 900, .inl v_buffer))] [.int (-4 : Int32)] [] (k_X11_fails l D cI cJ cZ cO z h_t_ h_a h_fresh h_kept h_buffer h_worthFrom h_cutsFrom h_endFrom h_changes h_waysFrom h_costAt h_places h_isCut h_written (-4 : Int32) v_keptMany v_thrown v_buffered v_size v_at_86 v_behind_87 v_kind_88 v_wrong_89 v_wrongAt_90 v_errorAt v_number_91 v_toCut v_toLeave v_writtenMany v_wrong_93 v_wrongAt_94 hc_) gX11_takesWord_X11_fails rfl ⟨rfl, rfl⟩ hy_X11_fails ⟨Nat.le_of_ble_eq_true rfl, Nat.le_of_ble_eq_true rfl⟩ rfl rfl rfl (q0 := 0) rfl rfl rfl (Nat.le_of_ble_eq_true rfl) rfl dX11_takesWord_45 rfl rfl ?_
      refine gq_sub [(0, .ref h_t_)] [0] rfl ?_
      exact jb48 v_at_86 v_behind_87 v_kind_88 v_wrong_93 v_wrongAt_94 v_number_91 v_fresh_92 hF
  have jb28 : ∀ (v_at_96 : Int32) (v_behind_97 : Int32) (v_kind_98 : Int32) (v_wrong_99 : Int32) (v_wrongAt_100 : Int32) (v_number_101 : Int64) (v_fresh_102 : Nat → Int64), F_X11_takesWord_b28 x1 v_size v_at_96 v_behind_97 v_kind_98 v_wrong_99 v_wrongAt_100 v_number_101 v_fresh_102 v_buffer = some (r_, w_at, w_behind, w_kind, w_wrong, w_wrongAt, w_number, w_fresh) → Gx p l e (rmD 3) s m args below meth c D A 7 Q 0 0 28 [(0, .ref h_t_), (1, .long x1)] [] [(h_t_, .inr (11, [.ref h_a, .ref h_fresh, .ref h_kept, .int v_keptMany, .int v_thrown, .ref h_buffer, .int v_buffered, .int v_size, .int v_at_96, .int v_behind_97, .int v_kind_98, .int v_wrong_99, .int v_wrongAt_100, .int v_errorAt, .long v_number_101, .ref h_worthFrom, .ref h_cutsFrom, .ref h_endFrom, .ref h_changes, .ref h_waysFrom, .int v_toCut, .int v_toLeave, .ref h_costAt, .ref h_places, .ref h_isCut, .ref h_written, .int v_writtenMany])), (h_fresh, .inl (cJ, 499, .inr (.inl v_fresh_102))), (h_buffer, .inl (cI, 900, .inl v_buffer))] := by
    intro v_at_96 v_behind_97 v_kind_98 v_wrong_99 v_wrongAt_100 v_number_101 v_fresh_102 hF
    unfold F_X11_takesWord_b28 at hF
    refine gq_aload_n hC 0 dX11_takesWord_28 rfl rfl ?_
    refine gq_bipush hC (-2 : Int32) dX11_takesWord_29 (by decide) ?_
    obtain ⟨v_wrong_103, v_wrongAt_104, hc_, hF⟩ := ob2_e hF
    refine gq_callVv hC [0] [(h_t_, .inr (11, [.ref h_a, .ref h_fresh, .ref h_kept, .int v_keptMany, .int v_thrown, .ref h_buffer, .int v_buffered, .int v_size, .int v_at_96, .int v_behind_97, .int v_kind_98, .int v_wrong_103, .int v_wrongAt_104, .int v_errorAt, .long v_number_101, .ref h_worthFrom, .ref h_cutsFrom, .ref h_endFrom, .ref h_changes, .ref h_waysFrom, .int v_toCut, .int v_toLeave, .ref h_costAt, .ref h_places, .ref h_isCut, .ref h_written, .int v_writtenMany])), (h_fresh, .inl (cJ, 499, .inr (.inl v_fresh_102))), (h_buffer, .inl (cI, 900, .inl v_buffer))] [.int (-2 : Int32)] [] (k_X11_fails l D cI cJ cZ cO z h_t_ h_a h_fresh h_kept h_buffer h_worthFrom h_cutsFrom h_endFrom h_changes h_waysFrom h_costAt h_places h_isCut h_written (-2 : Int32) v_keptMany v_thrown v_buffered v_size v_at_96 v_behind_97 v_kind_98 v_wrong_99 v_wrongAt_100 v_errorAt v_number_101 v_toCut v_toLeave v_writtenMany v_wrong_103 v_wrongAt_104 hc_) gX11_takesWord_X11_fails rfl ⟨rfl, rfl⟩ hy_X11_fails ⟨Nat.le_of_ble_eq_true rfl, Nat.le_of_ble_eq_true rfl⟩ rfl rfl rfl (q0 := 0) rfl rfl rfl (Nat.le_of_ble_eq_true rfl) rfl dX11_takesWord_31 rfl rfl ?_
    exact jb34 v_at_96 v_behind_97 v_kind_98 v_wrong_103 v_wrongAt_104 v_number_101 v_fresh_102 hF
  unfold F_X11_takesWord at hF
  refine gq_aload_n hC 0 dX11_takesWord_0 rfl rfl ?_
  refine gq_get hC (kf := 11) 0 hin_X11 rfl rfl (by decide) hw_131 rfl dX11_takesWord_1 ?_
  refine gq_if_ne hC 34 dX11_takesWord_4 (by decide) (fun hc_107 => ?_) (fun hc_107 => ?_)
  · have hF := (if_neg hc_107).symm.trans hF
    exact jb34 v_at v_behind v_kind v_wrong v_wrongAt v_number v_fresh hF
  · have hF := (if_pos hc_107).symm.trans hF
    refine gq_aload_n hC 0 dX11_takesWord_7 rfl rfl ?_
    refine gq_get hC (kf := 10) 0 hin_X11 rfl rfl (by decide) hw_113 rfl dX11_takesWord_8 ?_
    refine gq_if_ne hC 28 dX11_takesWord_11 (by decide) (fun hc_106 => ?_) (fun hc_106 => ?_)
    · have hF := (if_neg hc_106).symm.trans hF
      exact jb28 v_at v_behind v_kind v_wrong v_wrongAt v_number v_fresh hF
    · have hF := (if_pos hc_106).symm.trans hF
      refine gq_aload_n hC 0 dX11_takesWord_14 rfl rfl ?_
      refine gq_get hC (kf := 9) 0 hin_X11 rfl rfl (by decide) hw_103 rfl dX11_takesWord_15 ?_
      refine gq_aload_n hC 0 dX11_takesWord_18 rfl rfl ?_
      refine gq_get hC (kf := 8) 0 hin_X11 rfl rfl (by decide) hw_106 rfl dX11_takesWord_19 ?_
      refine gq_isub hC dX11_takesWord_22 ?_
      refine gq_bipush hC (8 : Int32) dX11_takesWord_23 (by decide) ?_
      refine gq_icmp_le hC 34 dX11_takesWord_25 (by decide) (fun hc_105 => ?_) (fun hc_105 => ?_)
      · have hF := (if_pos hc_105).symm.trans hF
        exact jb34 v_at v_behind v_kind v_wrong v_wrongAt v_number v_fresh hF
      · have hF := (if_neg hc_105).symm.trans hF
        exact jb28 v_at v_behind v_kind v_wrong v_wrongAt v_number v_fresh hF
theorem hy_X11_isSign : yX11_isSign.cls = RX11 ∧ yX11_isSign.cls ≠ "java/lang/invoke/MethodHandle" ∧ yX11_isSign.cls ≠ "java/lang/invoke/VarHandle" ∧ (parseMethodDescriptor yX11_isSign.desc).map (fun d => d.parameters.length) = some 1 := by decide +kernel
set_option maxRecDepth 20000 in
set_option maxHeartbeats 4000000 in
theorem k_X11_isSign (l : Launch) (D : va_G) (cI cJ cZ cO : ClassId) (z : Nat → Nat)   (h_t_ : Nat) (h_buffer : Nat) (h_a : Nat) (h_fresh : Nat) (h_kept : Nat) (h_worthFrom : Nat) (h_cutsFrom : Nat) (h_endFrom : Nat) (h_changes : Nat) (h_waysFrom : Nat) (h_costAt : Nat) (h_places : Nat) (h_isCut : Nat) (h_written : Nat) (x1 : Int32) (v_keptMany : Int32) (v_thrown : Int32) (v_buffered : Int32) (v_size : Int32) (v_at : Int32) (v_behind : Int32) (v_kind : Int32) (v_wrong : Int32) (v_wrongAt : Int32) (v_errorAt : Int32) (v_number : Int64) (v_toCut : Int32) (v_toLeave : Int32) (v_writtenMany : Int32) (v_buffer : Nat → Int32) (r_ : Int32) (hF : F_X11_isSign x1 v_at v_kind v_wrong v_buffer = some r_) : Mi l yX11_isSign wsX11_isSign (rmD 0) D (gq_ty cI cJ cZ cO) z [.ref h_t_, .int x1] [(h_t_, .inr (11, [.ref h_a, .ref h_fresh, .ref h_kept, .int v_keptMany, .int v_thrown, .ref h_buffer, .int v_buffered, .int v_size, .int v_at, .int v_behind, .int v_kind, .int v_wrong, .int v_wrongAt, .int v_errorAt, .long v_number, .ref h_worthFrom, .ref h_cutsFrom, .ref h_endFrom, .ref h_changes, .ref h_waysFrom, .int v_toCut, .int v_toLeave, .ref h_costAt, .ref h_places, .ref h_isCut, .ref h_written, .int v_writtenMany])), (h_buffer, .inl (cI, 900, .inl v_buffer))] r_ [(h_t_, .inr (11, [.ref h_a, .ref h_fresh, .ref h_kept, .int v_keptMany, .int v_thrown, .ref h_buffer, .int v_buffered, .int v_size, .int v_at, .int v_behind, .int v_kind, .int v_wrong, .int v_wrongAt, .int v_errorAt, .long v_number, .ref h_worthFrom, .ref h_cutsFrom, .ref h_endFrom, .ref h_changes, .ref h_waysFrom, .int v_toCut, .int v_toLeave, .ref h_costAt, .ref h_places, .ref h_isCut, .ref h_written, .int v_writtenMany])), (h_buffer, .inl (cI, 900, .inl v_buffer))] 0 0 := by
  refine Mi.of (cc := cX11_isSign) (maxL := 2) (by decide) rfl (Nat.le_of_ble_eq_true rfl) ⟨Nat.le_refl 0, Nat.le_refl 0⟩ ?_
  intro p e s m args below meth c A hC ha
  have hin_X11 : ∀ w ∈ wsX110, w ∈ wsX11_isSign := by decide +kernel
  have hw_19 : Cond.fieldLink RX11 19 (TX11 5).1 (TX11 5).2.1 (TX11 5).2.2.1 ∈ wsX11_isSign := by decide +kernel
  have hw_106 : Cond.fieldLink RX11 106 (TX11 8).1 (TX11 8).2.1 (TX11 8).2.2.1 ∈ wsX11_isSign := by decide +kernel
  have hw_113 : Cond.fieldLink RX11 113 (TX11 10).1 (TX11 10).2.1 (TX11 10).2.2.1 ∈ wsX11_isSign := by decide +kernel
  have hw_131 : Cond.fieldLink RX11 131 (TX11 11).1 (TX11 11).2.1 (TX11 11).2.2.1 ∈ wsX11_isSign := by decide +kernel
  obtain ⟨Q, hQ⟩ : ∃ Q, Q = gq_Qi below D A args s r_ [(h_t_, .inr (11, [.ref h_a, .ref h_fresh, .ref h_kept, .int v_keptMany, .int v_thrown, .ref h_buffer, .int v_buffered, .int v_size, .int v_at, .int v_behind, .int v_kind, .int v_wrong, .int v_wrongAt, .int v_errorAt, .long v_number, .ref h_worthFrom, .ref h_cutsFrom, .ref h_endFrom, .ref h_changes, .ref h_waysFrom, .int v_toCut, .int v_toLeave, .ref h_costAt, .ref h_places, .ref h_isCut, .ref h_written, .int v_writtenMany])), (h_buffer, .inl (cI, 900, .inl v_buffer))] 0 0 := ⟨_, rfl⟩
  rw [← hQ]
  refine gq_loc [(0, .ref h_t_), (1, .int x1)] rfl ?_
  unfold F_X11_isSign at hF
  refine gq_aload_n hC 0 dX11_isSign_0 rfl rfl ?_
  refine gq_get hC (kf := 11) 0 hin_X11 rfl rfl (by decide) hw_131 rfl dX11_isSign_1 ?_
  refine gq_if_ne hC 32 dX11_isSign_4 (by decide) (fun hc_4 => ?_) (fun hc_4 => ?_)
  · have hF := (if_neg hc_4).symm.trans hF
    refine gq_iconst hC (0 : Int32) dX11_isSign_32 (by decide) ?_
    cases hF
    rw [hQ]
    exact gq_iret hC rfl dX11_isSign_33
  · have hF := (if_pos hc_4).symm.trans hF
    refine gq_aload_n hC 0 dX11_isSign_7 rfl rfl ?_
    refine gq_get hC (kf := 10) 0 hin_X11 rfl rfl (by decide) hw_113 rfl dX11_isSign_8 ?_
    refine gq_iconst hC (2 : Int32) dX11_isSign_11 (by decide) ?_
    refine gq_icmp_ne hC 32 dX11_isSign_12 (by decide) (fun hc_3 => ?_) (fun hc_3 => ?_)
    · have hF := (if_neg hc_3).symm.trans hF
      refine gq_iconst hC (0 : Int32) dX11_isSign_32 (by decide) ?_
      cases hF
      rw [hQ]
      exact gq_iret hC rfl dX11_isSign_33
    · have hF := (if_pos hc_3).symm.trans hF
      refine gq_aload_n hC 0 dX11_isSign_15 rfl rfl ?_
      refine gq_get hC (kf := 5) 0 hin_X11 rfl rfl (by decide) hw_19 rfl dX11_isSign_16 ?_
      refine gq_aload_n hC 0 dX11_isSign_19 rfl rfl ?_
      refine gq_get hC (kf := 8) 0 hin_X11 rfl rfl (by decide) hw_106 rfl dX11_isSign_20 ?_
      obtain ⟨hi_1, hF⟩ := gi_e hF
      refine gq_iald hC 1 0 rfl rfl hi_1 dX11_isSign_23 ?_
      refine gq_iload_n hC 1 dX11_isSign_24 rfl rfl ?_
      refine gq_icmp_ne hC 32 dX11_isSign_25 (by decide) (fun hc_2 => ?_) (fun hc_2 => ?_)
      · have hF := (if_neg hc_2).symm.trans hF
        refine gq_iconst hC (0 : Int32) dX11_isSign_32 (by decide) ?_
        cases hF
        rw [hQ]
        exact gq_iret hC rfl dX11_isSign_33
      · have hF := (if_pos hc_2).symm.trans hF
        refine gq_iconst hC (1 : Int32) dX11_isSign_28 (by decide) ?_
        refine gq_goto hC 33 dX11_isSign_29 (by decide) ?_
        cases hF
        rw [hQ]
        exact gq_iret hC rfl dX11_isSign_33
theorem hy_X11_readsSegment : yX11_readsSegment.cls = RX11 ∧ yX11_readsSegment.cls ≠ "java/lang/invoke/MethodHandle" ∧ yX11_readsSegment.cls ≠ "java/lang/invoke/VarHandle" ∧ (parseMethodDescriptor yX11_readsSegment.desc).map (fun d => d.parameters.length) = some 0 := by decide +kernel
set_option maxRecDepth 20000 in
set_option maxHeartbeats 4000000 in
theorem k_X11_readsSegment (l : Launch) (D : va_G) (cI cJ cZ cO : ClassId) (z : Nat → Nat)   (h_t_ : Nat) (h_fresh : Nat) (h_buffer : Nat) (h_a : Nat) (h_kept : Nat) (h_worthFrom : Nat) (h_cutsFrom : Nat) (h_endFrom : Nat) (h_changes : Nat) (h_waysFrom : Nat) (h_costAt : Nat) (h_places : Nat) (h_isCut : Nat) (h_written : Nat)  (v_keptMany : Int32) (v_thrown : Int32) (v_buffered : Int32) (v_size : Int32) (v_at : Int32) (v_behind : Int32) (v_kind : Int32) (v_wrong : Int32) (v_wrongAt : Int32) (v_errorAt : Int32) (v_number : Int64) (v_toCut : Int32) (v_toLeave : Int32) (v_writtenMany : Int32) (v_fresh : Nat → Int64) (v_buffer : Nat → Int32) (w_at : Int32) (w_behind : Int32) (w_kind : Int32) (w_wrong : Int32) (w_wrongAt : Int32) (w_number : Int64) (w_fresh : Nat → Int64) (hF : F_X11_readsSegment v_size v_at v_behind v_kind v_wrong v_wrongAt v_number v_fresh v_buffer = some (w_at, w_behind, w_kind, w_wrong, w_wrongAt, w_number, w_fresh)) : Mv l yX11_readsSegment wsX11_readsSegment (rmD 5) D (gq_ty cI cJ cZ cO) z [.ref h_t_] [(h_t_, .inr (11, [.ref h_a, .ref h_fresh, .ref h_kept, .int v_keptMany, .int v_thrown, .ref h_buffer, .int v_buffered, .int v_size, .int v_at, .int v_behind, .int v_kind, .int v_wrong, .int v_wrongAt, .int v_errorAt, .long v_number, .ref h_worthFrom, .ref h_cutsFrom, .ref h_endFrom, .ref h_changes, .ref h_waysFrom, .int v_toCut, .int v_toLeave, .ref h_costAt, .ref h_places, .ref h_isCut, .ref h_written, .int v_writtenMany])), (h_fresh, .inl (cJ, 499, .inr (.inl v_fresh))), (h_buffer, .inl (cI, 900, .inl v_buffer))] [(h_t_, .inr (11, [.ref h_a, .ref h_fresh, .ref h_kept, .int v_keptMany, .int v_thrown, .ref h_buffer, .int v_buffered, .int v_size, .int w_at, .int w_behind, .int w_kind, .int w_wrong, .int w_wrongAt, .int v_errorAt, .long w_number, .ref h_worthFrom, .ref h_cutsFrom, .ref h_endFrom, .ref h_changes, .ref h_waysFrom, .int v_toCut, .int v_toLeave, .ref h_costAt, .ref h_places, .ref h_isCut, .ref h_written, .int v_writtenMany])), (h_fresh, .inl (cJ, 499, .inr (.inl w_fresh))), (h_buffer, .inl (cI, 900, .inl v_buffer))] 0 0 := by
  refine Mv.of (cc := cX11_readsSegment) (maxL := 5) (by decide) rfl (Nat.le_of_ble_eq_true rfl) ⟨Nat.le_refl 0, Nat.le_refl 0⟩ ?_
  intro p e s m args below meth c A hC ha
  have hin_X11 : ∀ w ∈ wsX110, w ∈ wsX11_readsSegment := by decide +kernel
  have hw_13 : Cond.fieldLink RX11 13 (TX11 1).1 (TX11 1).2.1 (TX11 1).2.2.1 ∈ wsX11_readsSegment := by decide +kernel
  have hw_113 : Cond.fieldLink RX11 113 (TX11 10).1 (TX11 10).2.1 (TX11 10).2.2.1 ∈ wsX11_readsSegment := by decide +kernel
  have hw_131 : Cond.fieldLink RX11 131 (TX11 11).1 (TX11 11).2.1 (TX11 11).2.2.1 ∈ wsX11_readsSegment := by decide +kernel
  obtain ⟨Q, hQ⟩ : ∃ Q, Q = gq_Qv below D A args s [(h_t_, .inr (11, [.ref h_a, .ref h_fresh, .ref h_kept, .int v_keptMany, .int v_thrown, .ref h_buffer, .int v_buffered, .int v_size, .int w_at, .int w_behind, .int w_kind, .int w_wrong, .int w_wrongAt, .int v_errorAt, .long w_number, .ref h_worthFrom, .ref h_cutsFrom, .ref h_endFrom, .ref h_changes, .ref h_waysFrom, .int v_toCut, .int v_toLeave, .ref h_costAt, .ref h_places, .ref h_isCut, .ref h_written, .int v_writtenMany])), (h_fresh, .inl (cJ, 499, .inr (.inl w_fresh))), (h_buffer, .inl (cI, 900, .inl v_buffer))] 0 0 := ⟨_, rfl⟩
  rw [← hQ]
  refine gq_loc [(0, .ref h_t_)] rfl ?_
  have jb92 : ∀ (l2_1 : Int32) (st_2 : Int32) (v_at_3 : Int32) (v_behind_4 : Int32) (v_kind_5 : Int32) (v_wrong_6 : Int32) (v_wrongAt_7 : Int32) (v_number_8 : Int64) (v_fresh_9 : Nat → Int64), F_X11_readsSegment_b92 l2_1 st_2 v_size v_at_3 v_behind_4 v_kind_5 v_wrong_6 v_wrongAt_7 v_number_8 v_fresh_9 v_buffer = some (w_at, w_behind, w_kind, w_wrong, w_wrongAt, w_number, w_fresh) → Gx p l e (rmD 5) s m args below meth c D A 5 Q 0 0 92 [(0, .ref h_t_), (2, .int l2_1)] [.int st_2] [(h_t_, .inr (11, [.ref h_a, .ref h_fresh, .ref h_kept, .int v_keptMany, .int v_thrown, .ref h_buffer, .int v_buffered, .int v_size, .int v_at_3, .int v_behind_4, .int v_kind_5, .int v_wrong_6, .int v_wrongAt_7, .int v_errorAt, .long v_number_8, .ref h_worthFrom, .ref h_cutsFrom, .ref h_endFrom, .ref h_changes, .ref h_waysFrom, .int v_toCut, .int v_toLeave, .ref h_costAt, .ref h_places, .ref h_isCut, .ref h_written, .int v_writtenMany])), (h_fresh, .inl (cJ, 499, .inr (.inl v_fresh_9))), (h_buffer, .inl (cI, 900, .inl v_buffer))] := by
    intro l2_1 st_2 v_at_3 v_behind_4 v_kind_5 v_wrong_6 v_wrongAt_7 v_number_8 v_fresh_9 hF
    unfold F_X11_readsSegment_b92 at hF
    refine gq_istore_n hC [(3, .int st_2), (0, .ref h_t_), (2, .int l2_1)] dX11_readsSegment_92 rfl (by decide) rfl ?_
    have lp93 : ∀ (l2_10 : Int32), ∀ (out_ : ((Int32) × (Int32) × (Int32) × (Int32) × (Int32) × (Int64) × (Nat → Int64)) ⊕ ((Int32) × (Int32) × (Int32) × (Int32) × (Int32) × (Int64) × (Nat → Int64))), (∀ (e_35 : (Int32)) (e_36 : (Int32)) (e_37 : (Int32)) (e_38 : (Int32)) (e_39 : (Int32)) (e_40 : (Int64)) (e_41 : (Nat → Int64)), out_ = .inl (e_35, e_36, e_37, e_38, e_39, e_40, e_41) → Gx p l e (rmD 5) s m args below meth c D A 5 Q 0 0 118 [] [] [(h_t_, .inr (11, [.ref h_a, .ref h_fresh, .ref h_kept, .int v_keptMany, .int v_thrown, .ref h_buffer, .int v_buffered, .int v_size, .int e_35, .int e_36, .int e_37, .int e_38, .int e_39, .int v_errorAt, .long e_40, .ref h_worthFrom, .ref h_cutsFrom, .ref h_endFrom, .ref h_changes, .ref h_waysFrom, .int v_toCut, .int v_toLeave, .ref h_costAt, .ref h_places, .ref h_isCut, .ref h_written, .int v_writtenMany])), (h_fresh, .inl (cJ, 499, .inr (.inl e_41))), (h_buffer, .inl (cI, 900, .inl v_buffer))]) → (∀ (e_42 : (Int32)) (e_43 : (Int32)) (e_44 : (Int32)) (e_45 : (Int32)) (e_46 : (Int32)) (e_47 : (Int64)) (e_48 : (Nat → Int64)), out_ = .inr (e_42, e_43, e_44, e_45, e_46, e_47, e_48) → Gx p l e (rmD 5) s m args below meth c D A 5 Q 0 0 168 [(0, .ref h_t_), (2, .int l2_10)] [] [(h_t_, .inr (11, [.ref h_a, .ref h_fresh, .ref h_kept, .int v_keptMany, .int v_thrown, .ref h_buffer, .int v_buffered, .int v_size, .int e_42, .int e_43, .int e_44, .int e_45, .int e_46, .int v_errorAt, .long e_47, .ref h_worthFrom, .ref h_cutsFrom, .ref h_endFrom, .ref h_changes, .ref h_waysFrom, .int v_toCut, .int v_toLeave, .ref h_costAt, .ref h_places, .ref h_isCut, .ref h_written, .int v_writtenMany])), (h_fresh, .inl (cJ, 499, .inr (.inl e_48))), (h_buffer, .inl (cI, 900, .inl v_buffer))]) → ∀ (N : Nat) (l3_11 : Int32) (v_at_12 : Int32) (v_behind_13 : Int32) (v_kind_14 : Int32) (v_wrong_15 : Int32) (v_wrongAt_16 : Int32) (v_number_17 : Int64) (v_fresh_18 : Nat → Int64), wh (fun k q => S_X11_readsSegment_93 l2_10 v_size v_buffer k q.1 q.2.1 q.2.2.1 q.2.2.2.1 q.2.2.2.2.1 q.2.2.2.2.2.1 q.2.2.2.2.2.2.1 q.2.2.2.2.2.2.2) N (l3_11, v_at_12, v_behind_13, v_kind_14, v_wrong_15, v_wrongAt_16, v_number_17, v_fresh_18) = some out_ → Gx p l e (rmD 5) s m args below meth c D A 5 Q 0 0 93 [(0, .ref h_t_), (2, .int l2_10), (3, .int l3_11)] [] [(h_t_, .inr (11, [.ref h_a, .ref h_fresh, .ref h_kept, .int v_keptMany, .int v_thrown, .ref h_buffer, .int v_buffered, .int v_size, .int v_at_12, .int v_behind_13, .int v_kind_14, .int v_wrong_15, .int v_wrongAt_16, .int v_errorAt, .long v_number_17, .ref h_worthFrom, .ref h_cutsFrom, .ref h_endFrom, .ref h_changes, .ref h_waysFrom, .int v_toCut, .int v_toLeave, .ref h_costAt, .ref h_places, .ref h_isCut, .ref h_written, .int v_writtenMany])), (h_fresh, .inl (cJ, 499, .inr (.inl v_fresh_18))), (h_buffer, .inl (cI, 900, .inl v_buffer))] := by
      intro l2_10 out_ hx0 hx1 N
      induction N with
      | zero => intro l3_11 v_at_12 v_behind_13 v_kind_14 v_wrong_15 v_wrongAt_16 v_number_17 v_fresh_18 hw; exact absurd hw (wh_0 _ _ _)
      | succ N ih =>
        intro l3_11 v_at_12 v_behind_13 v_kind_14 v_wrong_15 v_wrongAt_16 v_number_17 v_fresh_18 hw
        have hF : S_X11_readsSegment_93 l2_10 v_size v_buffer (wh (fun k q => S_X11_readsSegment_93 l2_10 v_size v_buffer k q.1 q.2.1 q.2.2.1 q.2.2.2.1 q.2.2.2.2.1 q.2.2.2.2.2.1 q.2.2.2.2.2.2.1 q.2.2.2.2.2.2.2) N) l3_11 v_at_12 v_behind_13 v_kind_14 v_wrong_15 v_wrongAt_16 v_number_17 v_fresh_18 = some out_ := hw
        unfold S_X11_readsSegment_93 at hF
        refine gq_iload_n hC 2 dX11_readsSegment_93 rfl rfl ?_
        refine gq_if_eq hC 168 dX11_readsSegment_94 (by decide) (fun hc_34 => ?_) (fun hc_34 => ?_)
        · have hF := (if_pos hc_34).symm.trans hF
          refine gq_sub [(0, .ref h_t_), (2, .int l2_10)] [0, 1] rfl ?_
          exact hx1 _ _ _ _ _ _ _ (Option.some.inj hF).symm
        · have hF := (if_neg hc_34).symm.trans hF
          refine gq_aload_n hC 0 dX11_readsSegment_97 rfl rfl ?_
          refine gq_aload_n hC 0 dX11_readsSegment_98 rfl rfl ?_
          refine gq_get hC (kf := 1) 0 hin_X11 rfl rfl (by decide) hw_13 rfl dX11_readsSegment_99 ?_
          refine gq_iload_n hC 1 dX11_readsSegment_102 rfl rfl ?_
          refine gq_iconst hC (2 : Int32) dX11_readsSegment_103 (by decide) ?_
          refine gq_iadd hC dX11_readsSegment_104 ?_
          obtain ⟨hi_19, hF⟩ := gi_e hF
          refine gq_lald hC 1 1 rfl rfl hi_19 dX11_readsSegment_105 ?_
          obtain ⟨r_20, v_at_21, v_behind_22, v_kind_23, v_wrong_24, v_wrongAt_25, v_number_26, v_fresh_27, hc_, hF⟩ := ob8_e hF
          refine gq_callVi hC [0, 1, 2] [(h_t_, .inr (11, [.ref h_a, .ref h_fresh, .ref h_kept, .int v_keptMany, .int v_thrown, .ref h_buffer, .int v_buffered, .int v_size, .int v_at_21, .int v_behind_22, .int v_kind_23, .int v_wrong_24, .int v_wrongAt_25, .int v_errorAt, .long v_number_26, .ref h_worthFrom, .ref h_cutsFrom, .ref h_endFrom, .ref h_changes, .ref h_waysFrom, .int v_toCut, .int v_toLeave, .ref h_costAt, .ref h_places, .ref h_isCut, .ref h_written, .int v_writtenMany])), (h_fresh, .inl (cJ, 499, .inr (.inl v_fresh_27))), (h_buffer, .inl (cI, 900, .inl v_buffer))] [.long (v_fresh_18 (l2_10 + (2 : Int32)).toNatClampNeg)] [] (k_X11_takesWord l D cI cJ cZ cO z h_t_ h_fresh h_buffer h_a h_kept h_worthFrom h_cutsFrom h_endFrom h_changes h_waysFrom h_costAt h_places h_isCut h_written (v_fresh_18 (l2_10 + (2 : Int32)).toNatClampNeg) v_keptMany v_thrown v_buffered v_size v_at_12 v_behind_13 v_kind_14 v_wrong_15 v_wrongAt_16 v_errorAt v_number_17 v_toCut v_toLeave v_writtenMany v_fresh_18 v_buffer r_20 v_at_21 v_behind_22 v_kind_23 v_wrong_24 v_wrongAt_25 v_number_26 v_fresh_27 hc_) gX11_readsSegment_X11_takesWord rfl ⟨rfl, rfl⟩ hy_X11_takesWord ⟨Nat.le_of_ble_eq_true rfl, Nat.le_of_ble_eq_true rfl⟩ rfl rfl rfl (q0 := 0) rfl rfl rfl (Nat.le_of_ble_eq_true rfl) rfl dX11_readsSegment_106 rfl rfl ?_
          refine gq_istore hC [(4, .int r_20), (0, .ref h_t_), (2, .int l2_10), (3, .int l3_11)] dX11_readsSegment_109 (by decide) rfl ?_
          refine gq_aload_n hC 1 dX11_readsSegment_111 rfl rfl ?_
          refine gq_get hC (kf := 11) 0 hin_X11 rfl rfl (by decide) hw_131 rfl dX11_readsSegment_112 ?_
          refine gq_if_eq hC 119 dX11_readsSegment_115 (by decide) (fun hc_33 => ?_) (fun hc_33 => ?_)
          · have hF := (if_pos hc_33).symm.trans hF
            refine gq_aload_n hC 1 dX11_readsSegment_119 rfl rfl ?_
            refine gq_get hC (kf := 1) 0 hin_X11 rfl rfl (by decide) hw_13 rfl dX11_readsSegment_120 ?_
            refine gq_iload_n hC 2 dX11_readsSegment_123 rfl rfl ?_
            refine gq_iconst hC (3 : Int32) dX11_readsSegment_124 (by decide) ?_
            refine gq_iadd hC dX11_readsSegment_125 ?_
            refine gq_aload_n hC 1 dX11_readsSegment_126 rfl rfl ?_
            refine gq_get hC (kf := 1) 0 hin_X11 rfl rfl (by decide) hw_13 rfl dX11_readsSegment_127 ?_
            refine gq_iload_n hC 2 dX11_readsSegment_130 rfl rfl ?_
            refine gq_iconst hC (2 : Int32) dX11_readsSegment_131 (by decide) ?_
            refine gq_iadd hC dX11_readsSegment_132 ?_
            obtain ⟨hi_28, hF⟩ := gi_e hF
            refine gq_lald hC 1 1 rfl rfl hi_28 dX11_readsSegment_133 ?_
            refine gq_l2i hC dX11_readsSegment_134 ?_
            refine gq_iadd hC dX11_readsSegment_135 ?_
            refine gq_iload hC 0 dX11_readsSegment_136 rfl ?_
            refine gq_i2l hC dX11_readsSegment_138 ?_
            obtain ⟨hi_29, hF⟩ := gi_e hF
            refine gq_last hC 1 1 [(h_t_, .inr (11, [.ref h_a, .ref h_fresh, .ref h_kept, .int v_keptMany, .int v_thrown, .ref h_buffer, .int v_buffered, .int v_size, .int v_at_21, .int v_behind_22, .int v_kind_23, .int v_wrong_24, .int v_wrongAt_25, .int v_errorAt, .long v_number_26, .ref h_worthFrom, .ref h_cutsFrom, .ref h_endFrom, .ref h_changes, .ref h_waysFrom, .int v_toCut, .int v_toLeave, .ref h_costAt, .ref h_places, .ref h_isCut, .ref h_written, .int v_writtenMany])), (h_fresh, .inl (cJ, 499, .inr (.inl (vp_updL v_fresh_27 ((l2_10 + (3 : Int32)) + ((v_fresh_27 (l2_10 + (2 : Int32)).toNatClampNeg).toInt32)).toNatClampNeg (r_20.toInt64))))), (h_buffer, .inl (cI, 900, .inl v_buffer))] rfl rfl hi_29 dX11_readsSegment_139 rfl ?_
            refine gq_aload_n hC 1 dX11_readsSegment_140 rfl rfl ?_
            refine gq_get hC (kf := 1) 0 hin_X11 rfl rfl (by decide) hw_13 rfl dX11_readsSegment_141 ?_
            refine gq_iload_n hC 2 dX11_readsSegment_144 rfl rfl ?_
            refine gq_iconst hC (2 : Int32) dX11_readsSegment_145 (by decide) ?_
            refine gq_iadd hC dX11_readsSegment_146 ?_
            refine gq_dup2 hC dX11_readsSegment_147 rfl rfl ?_
            obtain ⟨hi_30, hF⟩ := gi_e hF
            refine gq_lald hC 1 1 rfl rfl hi_30 dX11_readsSegment_148 ?_
            refine gq_lconst hC (1 : Int64) dX11_readsSegment_149 (by decide) ?_
            refine gq_ladd hC dX11_readsSegment_150 ?_
            obtain ⟨hi_31, hF⟩ := gi_e hF
            refine gq_last hC 1 1 [(h_t_, .inr (11, [.ref h_a, .ref h_fresh, .ref h_kept, .int v_keptMany, .int v_thrown, .ref h_buffer, .int v_buffered, .int v_size, .int v_at_21, .int v_behind_22, .int v_kind_23, .int v_wrong_24, .int v_wrongAt_25, .int v_errorAt, .long v_number_26, .ref h_worthFrom, .ref h_cutsFrom, .ref h_endFrom, .ref h_changes, .ref h_waysFrom, .int v_toCut, .int v_toLeave, .ref h_costAt, .ref h_places, .ref h_isCut, .ref h_written, .int v_writtenMany])), (h_fresh, .inl (cJ, 499, .inr (.inl (vp_updL (vp_updL v_fresh_27 ((l2_10 + (3 : Int32)) + ((v_fresh_27 (l2_10 + (2 : Int32)).toNatClampNeg).toInt32)).toNatClampNeg (r_20.toInt64)) (l2_10 + (2 : Int32)).toNatClampNeg (((vp_updL v_fresh_27 ((l2_10 + (3 : Int32)) + ((v_fresh_27 (l2_10 + (2 : Int32)).toNatClampNeg).toInt32)).toNatClampNeg (r_20.toInt64)) (l2_10 + (2 : Int32)).toNatClampNeg) + (1 : Int64)))))), (h_buffer, .inl (cI, 900, .inl v_buffer))] rfl rfl hi_31 dX11_readsSegment_151 rfl ?_
            refine gq_aload_n hC 1 dX11_readsSegment_152 rfl rfl ?_
            refine gq_get hC (kf := 10) 0 hin_X11 rfl rfl (by decide) hw_113 rfl dX11_readsSegment_153 ?_
            refine gq_if_ne hC 163 dX11_readsSegment_156 (by decide) (fun hc_32 => ?_) (fun hc_32 => ?_)
            · have hF := (if_neg hc_32).symm.trans hF
              refine gq_iconst hC (0 : Int32) dX11_readsSegment_163 (by decide) ?_
              refine gq_istore_n hC [(3, .int (0 : Int32)), (4, .int r_20), (0, .ref h_t_), (2, .int l2_10)] dX11_readsSegment_164 rfl (by decide) rfl ?_
              refine gq_goto hC 93 dX11_readsSegment_165 (by decide) ?_
              refine gq_sub [(0, .ref h_t_), (2, .int l2_10), (3, .int (0 : Int32))] [2, 3, 0] rfl ?_
              exact ih (0 : Int32) v_at_21 v_behind_22 v_kind_23 v_wrong_24 v_wrongAt_25 v_number_26 (vp_updL (vp_updL v_fresh_27 ((l2_10 + (3 : Int32)) + ((v_fresh_27 (l2_10 + (2 : Int32)).toNatClampNeg).toInt32)).toNatClampNeg (r_20.toInt64)) (l2_10 + (2 : Int32)).toNatClampNeg (((vp_updL v_fresh_27 ((l2_10 + (3 : Int32)) + ((v_fresh_27 (l2_10 + (2 : Int32)).toNatClampNeg).toInt32)).toNatClampNeg (r_20.toInt64)) (l2_10 + (2 : Int32)).toNatClampNeg) + (1 : Int64))) hF
            · have hF := (if_pos hc_32).symm.trans hF
              refine gq_iconst hC (1 : Int32) dX11_readsSegment_159 (by decide) ?_
              refine gq_goto hC 164 dX11_readsSegment_160 (by decide) ?_
              refine gq_istore_n hC [(3, .int (1 : Int32)), (4, .int r_20), (0, .ref h_t_), (2, .int l2_10)] dX11_readsSegment_164 rfl (by decide) rfl ?_
              refine gq_goto hC 93 dX11_readsSegment_165 (by decide) ?_
              refine gq_sub [(0, .ref h_t_), (2, .int l2_10), (3, .int (1 : Int32))] [2, 3, 0] rfl ?_
              exact ih (1 : Int32) v_at_21 v_behind_22 v_kind_23 v_wrong_24 v_wrongAt_25 v_number_26 (vp_updL (vp_updL v_fresh_27 ((l2_10 + (3 : Int32)) + ((v_fresh_27 (l2_10 + (2 : Int32)).toNatClampNeg).toInt32)).toNatClampNeg (r_20.toInt64)) (l2_10 + (2 : Int32)).toNatClampNeg (((vp_updL v_fresh_27 ((l2_10 + (3 : Int32)) + ((v_fresh_27 (l2_10 + (2 : Int32)).toNatClampNeg).toInt32)).toNatClampNeg (r_20.toInt64)) (l2_10 + (2 : Int32)).toNatClampNeg) + (1 : Int64))) hF
          · have hF := (if_neg hc_33).symm.trans hF
            refine gq_sub [] [] rfl ?_
            exact hx0 _ _ _ _ _ _ _ (Option.some.inj hF).symm
    refine gq_sub [(0, .ref h_t_), (2, .int l2_1), (3, .int st_2)] [1, 2, 0] rfl ?_
    obtain ⟨o_, hw_, hF⟩ := ob1_e hF
    refine lp93 l2_1 o_ ?_ ?_ wF st_2 v_at_3 v_behind_4 v_kind_5 v_wrong_6 v_wrongAt_7 v_number_8 v_fresh_9 hw_
    · intro e_49 e_50 e_51 e_52 e_53 e_54 e_55 ho_56
      subst ho_56
      have hF : (some (e_49, e_50, e_51, e_52, e_53, e_54, e_55)) = some _ := hF
      cases hF
      rw [hQ]
      exact gq_vret hC dX11_readsSegment_118
    · intro e_57 e_58 e_59 e_60 e_61 e_62 e_63 ho_78
      subst ho_78
      have hF : (ob1 (F_X11_isSign (59 : Int32) e_57 e_59 e_60 v_buffer) (fun r_64 => ob6 (F_X11_must r_64 v_size e_57 e_58 e_59 e_60 e_61 e_62 v_buffer) (fun v_at_65 v_behind_66 v_kind_67 v_wrong_68 v_wrongAt_69 v_number_70 => if v_wrong_68 = 0 then (gi (9 : Int32) 499 (gi (l2_1 + (11 : Int32)) 499 (gi (9 : Int32) 499 (gi (9 : Int32) 499 (gi (6 : Int32) 499 (gi (6 : Int32) 499 (some (v_at_65, v_behind_66, v_kind_67, v_wrong_68, v_wrongAt_69, v_number_70, (vp_updL (vp_updL (vp_updL e_63 (l2_1 + (11 : Int32)).toNatClampNeg (e_63 (9 : Int32).toNatClampNeg)) (9 : Int32).toNatClampNeg (((vp_updL e_63 (l2_1 + (11 : Int32)).toNatClampNeg (e_63 (9 : Int32).toNatClampNeg)) (9 : Int32).toNatClampNeg) + (1 : Int64))) (6 : Int32).toNatClampNeg (((vp_updL (vp_updL e_63 (l2_1 + (11 : Int32)).toNatClampNeg (e_63 (9 : Int32).toNatClampNeg)) (9 : Int32).toNatClampNeg (((vp_updL e_63 (l2_1 + (11 : Int32)).toNatClampNeg (e_63 (9 : Int32).toNatClampNeg)) (9 : Int32).toNatClampNeg) + (1 : Int64))) (6 : Int32).toNatClampNeg) + (1 : Int64))))))))))) else (some (v_at_65, v_behind_66, v_kind_67, v_wrong_68, v_wrongAt_69, v_number_70, e_63))))) = some _ := hF
      refine gq_aload_n hC 0 dX11_readsSegment_168 rfl rfl ?_
      refine gq_aload_n hC 0 dX11_readsSegment_169 rfl rfl ?_
      refine gq_bipush hC (59 : Int32) dX11_readsSegment_170 (by decide) ?_
      obtain ⟨r_64, hc_, hF⟩ := ob1_e hF
      refine gq_callVi hC [0, 2] [(h_t_, .inr (11, [.ref h_a, .ref h_fresh, .ref h_kept, .int v_keptMany, .int v_thrown, .ref h_buffer, .int v_buffered, .int v_size, .int e_57, .int e_58, .int e_59, .int e_60, .int e_61, .int v_errorAt, .long e_62, .ref h_worthFrom, .ref h_cutsFrom, .ref h_endFrom, .ref h_changes, .ref h_waysFrom, .int v_toCut, .int v_toLeave, .ref h_costAt, .ref h_places, .ref h_isCut, .ref h_written, .int v_writtenMany])), (h_fresh, .inl (cJ, 499, .inr (.inl e_63))), (h_buffer, .inl (cI, 900, .inl v_buffer))] [.int (59 : Int32)] [.ref h_t_] (k_X11_isSign l D cI cJ cZ cO z h_t_ h_buffer h_a h_fresh h_kept h_worthFrom h_cutsFrom h_endFrom h_changes h_waysFrom h_costAt h_places h_isCut h_written (59 : Int32) v_keptMany v_thrown v_buffered v_size e_57 e_58 e_59 e_60 e_61 v_errorAt e_62 v_toCut v_toLeave v_writtenMany v_buffer r_64 hc_) gX11_readsSegment_X11_isSign rfl ⟨rfl, rfl⟩ hy_X11_isSign ⟨Nat.le_of_ble_eq_true rfl, Nat.le_of_ble_eq_true rfl⟩ rfl rfl rfl (q0 := 0) rfl rfl rfl (Nat.le_of_ble_eq_true rfl) rfl dX11_readsSegment_172 rfl rfl ?_
      obtain ⟨v_at_65, v_behind_66, v_kind_67, v_wrong_68, v_wrongAt_69, v_number_70, hc_, hF⟩ := ob6_e hF
      refine gq_callVv hC [0, 2] [(h_t_, .inr (11, [.ref h_a, .ref h_fresh, .ref h_kept, .int v_keptMany, .int v_thrown, .ref h_buffer, .int v_buffered, .int v_size, .int v_at_65, .int v_behind_66, .int v_kind_67, .int v_wrong_68, .int v_wrongAt_69, .int v_errorAt, .long v_number_70, .ref h_worthFrom, .ref h_cutsFrom, .ref h_endFrom, .ref h_changes, .ref h_waysFrom, .int v_toCut, .int v_toLeave, .ref h_costAt, .ref h_places, .ref h_isCut, .ref h_written, .int v_writtenMany])), (h_fresh, .inl (cJ, 499, .inr (.inl e_63))), (h_buffer, .inl (cI, 900, .inl v_buffer))] [.int r_64] [] (k_X11_must l D cI cJ cZ cO z h_t_ h_buffer h_a h_fresh h_kept h_worthFrom h_cutsFrom h_endFrom h_changes h_waysFrom h_costAt h_places h_isCut h_written r_64 v_keptMany v_thrown v_buffered v_size e_57 e_58 e_59 e_60 e_61 v_errorAt e_62 v_toCut v_toLeave v_writtenMany v_buffer v_at_65 v_behind_66 v_kind_67 v_wrong_68 v_wrongAt_69 v_number_70 hc_) gX11_readsSegment_X11_must rfl ⟨rfl, rfl⟩ hy_X11_must ⟨Nat.le_of_ble_eq_true rfl, Nat.le_of_ble_eq_true rfl⟩ rfl rfl rfl (q0 := 0) rfl rfl rfl (Nat.le_of_ble_eq_true rfl) rfl dX11_readsSegment_175 rfl rfl ?_
      refine gq_aload_n hC 0 dX11_readsSegment_178 rfl rfl ?_
      refine gq_get hC (kf := 11) 0 hin_X11 rfl rfl (by decide) hw_131 rfl dX11_readsSegment_179 ?_
      refine gq_if_eq hC 186 dX11_readsSegment_182 (by decide) (fun hc_77 => ?_) (fun hc_77 => ?_)
      · have hF := (if_pos hc_77).symm.trans hF
        refine gq_aload_n hC 0 dX11_readsSegment_186 rfl rfl ?_
        refine gq_get hC (kf := 1) 0 hin_X11 rfl rfl (by decide) hw_13 rfl dX11_readsSegment_187 ?_
        refine gq_iload_n hC 1 dX11_readsSegment_190 rfl rfl ?_
        refine gq_bipush hC (11 : Int32) dX11_readsSegment_191 (by decide) ?_
        refine gq_iadd hC dX11_readsSegment_193 ?_
        refine gq_aload_n hC 0 dX11_readsSegment_194 rfl rfl ?_
        refine gq_get hC (kf := 1) 0 hin_X11 rfl rfl (by decide) hw_13 rfl dX11_readsSegment_195 ?_
        refine gq_bipush hC (9 : Int32) dX11_readsSegment_198 (by decide) ?_
        obtain ⟨hi_71, hF⟩ := gi_e hF
        refine gq_lald hC 1 1 rfl rfl hi_71 dX11_readsSegment_200 ?_
        obtain ⟨hi_72, hF⟩ := gi_e hF
        refine gq_last hC 1 1 [(h_t_, .inr (11, [.ref h_a, .ref h_fresh, .ref h_kept, .int v_keptMany, .int v_thrown, .ref h_buffer, .int v_buffered, .int v_size, .int v_at_65, .int v_behind_66, .int v_kind_67, .int v_wrong_68, .int v_wrongAt_69, .int v_errorAt, .long v_number_70, .ref h_worthFrom, .ref h_cutsFrom, .ref h_endFrom, .ref h_changes, .ref h_waysFrom, .int v_toCut, .int v_toLeave, .ref h_costAt, .ref h_places, .ref h_isCut, .ref h_written, .int v_writtenMany])), (h_fresh, .inl (cJ, 499, .inr (.inl (vp_updL e_63 (l2_1 + (11 : Int32)).toNatClampNeg (e_63 (9 : Int32).toNatClampNeg))))), (h_buffer, .inl (cI, 900, .inl v_buffer))] rfl rfl hi_72 dX11_readsSegment_201 rfl ?_
        refine gq_aload_n hC 0 dX11_readsSegment_202 rfl rfl ?_
        refine gq_get hC (kf := 1) 0 hin_X11 rfl rfl (by decide) hw_13 rfl dX11_readsSegment_203 ?_
        refine gq_bipush hC (9 : Int32) dX11_readsSegment_206 (by decide) ?_
        refine gq_dup2 hC dX11_readsSegment_208 rfl rfl ?_
        obtain ⟨hi_73, hF⟩ := gi_e hF
        refine gq_lald hC 1 1 rfl rfl hi_73 dX11_readsSegment_209 ?_
        refine gq_lconst hC (1 : Int64) dX11_readsSegment_210 (by decide) ?_
        refine gq_ladd hC dX11_readsSegment_211 ?_
        obtain ⟨hi_74, hF⟩ := gi_e hF
        refine gq_last hC 1 1 [(h_t_, .inr (11, [.ref h_a, .ref h_fresh, .ref h_kept, .int v_keptMany, .int v_thrown, .ref h_buffer, .int v_buffered, .int v_size, .int v_at_65, .int v_behind_66, .int v_kind_67, .int v_wrong_68, .int v_wrongAt_69, .int v_errorAt, .long v_number_70, .ref h_worthFrom, .ref h_cutsFrom, .ref h_endFrom, .ref h_changes, .ref h_waysFrom, .int v_toCut, .int v_toLeave, .ref h_costAt, .ref h_places, .ref h_isCut, .ref h_written, .int v_writtenMany])), (h_fresh, .inl (cJ, 499, .inr (.inl (vp_updL (vp_updL e_63 (l2_1 + (11 : Int32)).toNatClampNeg (e_63 (9 : Int32).toNatClampNeg)) (9 : Int32).toNatClampNeg (((vp_updL e_63 (l2_1 + (11 : Int32)).toNatClampNeg (e_63 (9 : Int32).toNatClampNeg)) (9 : Int32).toNatClampNeg) + (1 : Int64)))))), (h_buffer, .inl (cI, 900, .inl v_buffer))] rfl rfl hi_74 dX11_readsSegment_212 rfl ?_
        refine gq_aload_n hC 0 dX11_readsSegment_213 rfl rfl ?_
        refine gq_get hC (kf := 1) 0 hin_X11 rfl rfl (by decide) hw_13 rfl dX11_readsSegment_214 ?_
        refine gq_bipush hC (6 : Int32) dX11_readsSegment_217 (by decide) ?_
        refine gq_dup2 hC dX11_readsSegment_219 rfl rfl ?_
        obtain ⟨hi_75, hF⟩ := gi_e hF
        refine gq_lald hC 1 1 rfl rfl hi_75 dX11_readsSegment_220 ?_
        refine gq_lconst hC (1 : Int64) dX11_readsSegment_221 (by decide) ?_
        refine gq_ladd hC dX11_readsSegment_222 ?_
        obtain ⟨hi_76, hF⟩ := gi_e hF
        refine gq_last hC 1 1 [(h_t_, .inr (11, [.ref h_a, .ref h_fresh, .ref h_kept, .int v_keptMany, .int v_thrown, .ref h_buffer, .int v_buffered, .int v_size, .int v_at_65, .int v_behind_66, .int v_kind_67, .int v_wrong_68, .int v_wrongAt_69, .int v_errorAt, .long v_number_70, .ref h_worthFrom, .ref h_cutsFrom, .ref h_endFrom, .ref h_changes, .ref h_waysFrom, .int v_toCut, .int v_toLeave, .ref h_costAt, .ref h_places, .ref h_isCut, .ref h_written, .int v_writtenMany])), (h_fresh, .inl (cJ, 499, .inr (.inl (vp_updL (vp_updL (vp_updL e_63 (l2_1 + (11 : Int32)).toNatClampNeg (e_63 (9 : Int32).toNatClampNeg)) (9 : Int32).toNatClampNeg (((vp_updL e_63 (l2_1 + (11 : Int32)).toNatClampNeg (e_63 (9 : Int32).toNatClampNeg)) (9 : Int32).toNatClampNeg) + (1 : Int64))) (6 : Int32).toNatClampNeg (((vp_updL (vp_updL e_63 (l2_1 + (11 : Int32)).toNatClampNeg (e_63 (9 : Int32).toNatClampNeg)) (9 : Int32).toNatClampNeg (((vp_updL e_63 (l2_1 + (11 : Int32)).toNatClampNeg (e_63 (9 : Int32).toNatClampNeg)) (9 : Int32).toNatClampNeg) + (1 : Int64))) (6 : Int32).toNatClampNeg) + (1 : Int64)))))), (h_buffer, .inl (cI, 900, .inl v_buffer))] rfl rfl hi_76 dX11_readsSegment_223 rfl ?_
        cases hF
        rw [hQ]
        exact gq_vret hC dX11_readsSegment_224
      · have hF := (if_neg hc_77).symm.trans hF
        cases hF
        rw [hQ]
        exact gq_vret hC dX11_readsSegment_185
  have jb21 : ∀ (l1_79 : Int32) (v_at_80 : Int32) (v_behind_81 : Int32) (v_kind_82 : Int32) (v_wrong_83 : Int32) (v_wrongAt_84 : Int32) (v_number_85 : Int64) (v_fresh_86 : Nat → Int64), F_X11_readsSegment_b21 l1_79 v_size v_at_80 v_behind_81 v_kind_82 v_wrong_83 v_wrongAt_84 v_number_85 v_fresh_86 v_buffer = some (w_at, w_behind, w_kind, w_wrong, w_wrongAt, w_number, w_fresh) → Gx p l e (rmD 5) s m args below meth c D A 5 Q 0 0 21 [(0, .ref h_t_), (1, .int l1_79)] [] [(h_t_, .inr (11, [.ref h_a, .ref h_fresh, .ref h_kept, .int v_keptMany, .int v_thrown, .ref h_buffer, .int v_buffered, .int v_size, .int v_at_80, .int v_behind_81, .int v_kind_82, .int v_wrong_83, .int v_wrongAt_84, .int v_errorAt, .long v_number_85, .ref h_worthFrom, .ref h_cutsFrom, .ref h_endFrom, .ref h_changes, .ref h_waysFrom, .int v_toCut, .int v_toLeave, .ref h_costAt, .ref h_places, .ref h_isCut, .ref h_written, .int v_writtenMany])), (h_fresh, .inl (cJ, 499, .inr (.inl v_fresh_86))), (h_buffer, .inl (cI, 900, .inl v_buffer))] := by
    intro l1_79 v_at_80 v_behind_81 v_kind_82 v_wrong_83 v_wrongAt_84 v_number_85 v_fresh_86 hF
    unfold F_X11_readsSegment_b21 at hF
    refine gq_aload_n hC 0 dX11_readsSegment_21 rfl rfl ?_
    refine gq_aload_n hC 0 dX11_readsSegment_22 rfl rfl ?_
    refine gq_ldcS hC hC.2.2.2.2.2.2.2.2.2.2.2.2.2.2.1.2.2.1 dX11_readsSegment_23 ?_
    obtain ⟨r_87, hc_, hF⟩ := ob1_e hF
    refine gq_callVi hC [0, 2] [(h_t_, .inr (11, [.ref h_a, .ref h_fresh, .ref h_kept, .int v_keptMany, .int v_thrown, .ref h_buffer, .int v_buffered, .int v_size, .int v_at_80, .int v_behind_81, .int v_kind_82, .int v_wrong_83, .int v_wrongAt_84, .int v_errorAt, .long v_number_85, .ref h_worthFrom, .ref h_cutsFrom, .ref h_endFrom, .ref h_changes, .ref h_waysFrom, .int v_toCut, .int v_toLeave, .ref h_costAt, .ref h_places, .ref h_isCut, .ref h_written, .int v_writtenMany])), (h_fresh, .inl (cJ, 499, .inr (.inl v_fresh_86))), (h_buffer, .inl (cI, 900, .inl v_buffer))] [.ref (z 3)] [.ref h_t_] (k_X11_isWord l D cI cJ cZ cO z 0 (by decide) h_t_ h_buffer h_a h_fresh h_kept h_worthFrom h_cutsFrom h_endFrom h_changes h_waysFrom h_costAt h_places h_isCut h_written v_keptMany v_thrown v_buffered v_size v_at_80 v_behind_81 v_kind_82 v_wrong_83 v_wrongAt_84 v_errorAt v_number_85 v_toCut v_toLeave v_writtenMany v_buffer r_87 hc_) gX11_readsSegment_X11_isWord rfl ⟨rfl, rfl⟩ hy_X11_isWord ⟨Nat.le_of_ble_eq_true rfl, Nat.le_of_ble_eq_true rfl⟩ rfl rfl rfl (q0 := 0) rfl rfl rfl (Nat.le_of_ble_eq_true rfl) rfl dX11_readsSegment_25 rfl rfl ?_
    obtain ⟨v_at_88, v_behind_89, v_kind_90, v_wrong_91, v_wrongAt_92, v_number_93, hc_, hF⟩ := ob6_e hF
    refine gq_callVv hC [0, 2] [(h_t_, .inr (11, [.ref h_a, .ref h_fresh, .ref h_kept, .int v_keptMany, .int v_thrown, .ref h_buffer, .int v_buffered, .int v_size, .int v_at_88, .int v_behind_89, .int v_kind_90, .int v_wrong_91, .int v_wrongAt_92, .int v_errorAt, .long v_number_93, .ref h_worthFrom, .ref h_cutsFrom, .ref h_endFrom, .ref h_changes, .ref h_waysFrom, .int v_toCut, .int v_toLeave, .ref h_costAt, .ref h_places, .ref h_isCut, .ref h_written, .int v_writtenMany])), (h_fresh, .inl (cJ, 499, .inr (.inl v_fresh_86))), (h_buffer, .inl (cI, 900, .inl v_buffer))] [.int r_87] [] (k_X11_must l D cI cJ cZ cO z h_t_ h_buffer h_a h_fresh h_kept h_worthFrom h_cutsFrom h_endFrom h_changes h_waysFrom h_costAt h_places h_isCut h_written r_87 v_keptMany v_thrown v_buffered v_size v_at_80 v_behind_81 v_kind_82 v_wrong_83 v_wrongAt_84 v_errorAt v_number_85 v_toCut v_toLeave v_writtenMany v_buffer v_at_88 v_behind_89 v_kind_90 v_wrong_91 v_wrongAt_92 v_number_93 hc_) gX11_readsSegment_X11_must rfl ⟨rfl, rfl⟩ hy_X11_must ⟨Nat.le_of_ble_eq_true rfl, Nat.le_of_ble_eq_true rfl⟩ rfl rfl rfl (q0 := 0) rfl rfl rfl (Nat.le_of_ble_eq_true rfl) rfl dX11_readsSegment_28 rfl rfl ?_
    refine gq_aload_n hC 0 dX11_readsSegment_31 rfl rfl ?_
    refine gq_get hC (kf := 11) 0 hin_X11 rfl rfl (by decide) hw_131 rfl dX11_readsSegment_32 ?_
    refine gq_if_eq hC 39 dX11_readsSegment_35 (by decide) (fun hc_111 => ?_) (fun hc_111 => ?_)
    · have hF := (if_pos hc_111).symm.trans hF
      refine gq_bipush hC (10 : Int32) dX11_readsSegment_39 (by decide) ?_
      refine gq_bipush hC (12 : Int32) dX11_readsSegment_41 (by decide) ?_
      refine gq_iload_n hC 1 dX11_readsSegment_43 rfl rfl ?_
      refine gq_imul hC dX11_readsSegment_44 ?_
      refine gq_iadd hC dX11_readsSegment_45 ?_
      refine gq_istore_n hC [(2, .int ((10 : Int32) + ((12 : Int32) * l1_79))), (0, .ref h_t_), (1, .int l1_79)] dX11_readsSegment_46 rfl (by decide) rfl ?_
      refine gq_aload_n hC 1 dX11_readsSegment_47 rfl rfl ?_
      refine gq_get hC (kf := 1) 0 hin_X11 rfl rfl (by decide) hw_13 rfl dX11_readsSegment_48 ?_
      refine gq_iload_n hC 0 dX11_readsSegment_51 rfl rfl ?_
      refine gq_iconst hC (0 : Int32) dX11_readsSegment_52 (by decide) ?_
      refine gq_iadd hC dX11_readsSegment_53 ?_
      refine gq_aload_n hC 1 dX11_readsSegment_54 rfl rfl ?_
      refine gq_iconst hC (1 : Int32) dX11_readsSegment_55 (by decide) ?_
      refine gq_sipush hC (999 : Int32) dX11_readsSegment_56 (by decide) ?_
      obtain ⟨r_94, v_at_95, v_behind_96, v_kind_97, v_wrong_98, v_wrongAt_99, v_number_100, hc_, hF⟩ := ob7_e hF
      refine gq_callVi hC [0, 2] [(h_t_, .inr (11, [.ref h_a, .ref h_fresh, .ref h_kept, .int v_keptMany, .int v_thrown, .ref h_buffer, .int v_buffered, .int v_size, .int v_at_95, .int v_behind_96, .int v_kind_97, .int v_wrong_98, .int v_wrongAt_99, .int v_errorAt, .long v_number_100, .ref h_worthFrom, .ref h_cutsFrom, .ref h_endFrom, .ref h_changes, .ref h_waysFrom, .int v_toCut, .int v_toLeave, .ref h_costAt, .ref h_places, .ref h_isCut, .ref h_written, .int v_writtenMany])), (h_fresh, .inl (cJ, 499, .inr (.inl v_fresh_86))), (h_buffer, .inl (cI, 900, .inl v_buffer))] [.int (1 : Int32), .int (999 : Int32)] [.int (((10 : Int32) + ((12 : Int32) * l1_79)) + (0 : Int32)), .ref h_fresh] (k_X11_takes l D cI cJ cZ cO z h_t_ h_buffer h_a h_fresh h_kept h_worthFrom h_cutsFrom h_endFrom h_changes h_waysFrom h_costAt h_places h_isCut h_written (1 : Int32) (999 : Int32) v_keptMany v_thrown v_buffered v_size v_at_88 v_behind_89 v_kind_90 v_wrong_91 v_wrongAt_92 v_errorAt v_number_93 v_toCut v_toLeave v_writtenMany v_buffer r_94 v_at_95 v_behind_96 v_kind_97 v_wrong_98 v_wrongAt_99 v_number_100 hc_) gX11_readsSegment_X11_takes rfl ⟨rfl, rfl⟩ hy_X11_takes ⟨Nat.le_of_ble_eq_true rfl, Nat.le_of_ble_eq_true rfl⟩ rfl rfl rfl (q0 := 0) rfl rfl rfl (Nat.le_of_ble_eq_true rfl) rfl dX11_readsSegment_59 rfl rfl ?_
      refine gq_i2l hC dX11_readsSegment_62 ?_
      obtain ⟨hi_101, hF⟩ := gi_e hF
      refine gq_last hC 1 1 [(h_t_, .inr (11, [.ref h_a, .ref h_fresh, .ref h_kept, .int v_keptMany, .int v_thrown, .ref h_buffer, .int v_buffered, .int v_size, .int v_at_95, .int v_behind_96, .int v_kind_97, .int v_wrong_98, .int v_wrongAt_99, .int v_errorAt, .long v_number_100, .ref h_worthFrom, .ref h_cutsFrom, .ref h_endFrom, .ref h_changes, .ref h_waysFrom, .int v_toCut, .int v_toLeave, .ref h_costAt, .ref h_places, .ref h_isCut, .ref h_written, .int v_writtenMany])), (h_fresh, .inl (cJ, 499, .inr (.inl (vp_updL v_fresh_86 (((10 : Int32) + ((12 : Int32) * l1_79)) + (0 : Int32)).toNatClampNeg (r_94.toInt64))))), (h_buffer, .inl (cI, 900, .inl v_buffer))] rfl rfl hi_101 dX11_readsSegment_63 rfl ?_
      refine gq_aload_n hC 1 dX11_readsSegment_64 rfl rfl ?_
      refine gq_get hC (kf := 1) 0 hin_X11 rfl rfl (by decide) hw_13 rfl dX11_readsSegment_65 ?_
      refine gq_iload_n hC 0 dX11_readsSegment_68 rfl rfl ?_
      refine gq_iconst hC (1 : Int32) dX11_readsSegment_69 (by decide) ?_
      refine gq_iadd hC dX11_readsSegment_70 ?_
      refine gq_aload_n hC 1 dX11_readsSegment_71 rfl rfl ?_
      refine gq_iconst hC (0 : Int32) dX11_readsSegment_72 (by decide) ?_
      refine gq_bipush hC (99 : Int32) dX11_readsSegment_73 (by decide) ?_
      obtain ⟨r_102, v_at_103, v_behind_104, v_kind_105, v_wrong_106, v_wrongAt_107, v_number_108, hc_, hF⟩ := ob7_e hF
      refine gq_callVi hC [0, 2] [(h_t_, .inr (11, [.ref h_a, .ref h_fresh, .ref h_kept, .int v_keptMany, .int v_thrown, .ref h_buffer, .int v_buffered, .int v_size, .int v_at_103, .int v_behind_104, .int v_kind_105, .int v_wrong_106, .int v_wrongAt_107, .int v_errorAt, .long v_number_108, .ref h_worthFrom, .ref h_cutsFrom, .ref h_endFrom, .ref h_changes, .ref h_waysFrom, .int v_toCut, .int v_toLeave, .ref h_costAt, .ref h_places, .ref h_isCut, .ref h_written, .int v_writtenMany])), (h_fresh, .inl (cJ, 499, .inr (.inl (vp_updL v_fresh_86 (((10 : Int32) + ((12 : Int32) * l1_79)) + (0 : Int32)).toNatClampNeg (r_94.toInt64))))), (h_buffer, .inl (cI, 900, .inl v_buffer))] [.int (0 : Int32), .int (99 : Int32)] [.int (((10 : Int32) + ((12 : Int32) * l1_79)) + (1 : Int32)), .ref h_fresh] (k_X11_takes l D cI cJ cZ cO z h_t_ h_buffer h_a h_fresh h_kept h_worthFrom h_cutsFrom h_endFrom h_changes h_waysFrom h_costAt h_places h_isCut h_written (0 : Int32) (99 : Int32) v_keptMany v_thrown v_buffered v_size v_at_95 v_behind_96 v_kind_97 v_wrong_98 v_wrongAt_99 v_errorAt v_number_100 v_toCut v_toLeave v_writtenMany v_buffer r_102 v_at_103 v_behind_104 v_kind_105 v_wrong_106 v_wrongAt_107 v_number_108 hc_) gX11_readsSegment_X11_takes rfl ⟨rfl, rfl⟩ hy_X11_takes ⟨Nat.le_of_ble_eq_true rfl, Nat.le_of_ble_eq_true rfl⟩ rfl rfl rfl (q0 := 0) rfl rfl rfl (Nat.le_of_ble_eq_true rfl) rfl dX11_readsSegment_75 rfl rfl ?_
      refine gq_i2l hC dX11_readsSegment_78 ?_
      obtain ⟨hi_109, hF⟩ := gi_e hF
      refine gq_last hC 1 1 [(h_t_, .inr (11, [.ref h_a, .ref h_fresh, .ref h_kept, .int v_keptMany, .int v_thrown, .ref h_buffer, .int v_buffered, .int v_size, .int v_at_103, .int v_behind_104, .int v_kind_105, .int v_wrong_106, .int v_wrongAt_107, .int v_errorAt, .long v_number_108, .ref h_worthFrom, .ref h_cutsFrom, .ref h_endFrom, .ref h_changes, .ref h_waysFrom, .int v_toCut, .int v_toLeave, .ref h_costAt, .ref h_places, .ref h_isCut, .ref h_written, .int v_writtenMany])), (h_fresh, .inl (cJ, 499, .inr (.inl (vp_updL (vp_updL v_fresh_86 (((10 : Int32) + ((12 : Int32) * l1_79)) + (0 : Int32)).toNatClampNeg (r_94.toInt64)) (((10 : Int32) + ((12 : Int32) * l1_79)) + (1 : Int32)).toNatClampNeg (r_102.toInt64))))), (h_buffer, .inl (cI, 900, .inl v_buffer))] rfl rfl hi_109 dX11_readsSegment_79 rfl ?_
      refine gq_aload_n hC 1 dX11_readsSegment_80 rfl rfl ?_
      refine gq_get hC (kf := 11) 0 hin_X11 rfl rfl (by decide) hw_131 rfl dX11_readsSegment_81 ?_
      refine gq_if_ne hC 91 dX11_readsSegment_84 (by decide) (fun hc_110 => ?_) (fun hc_110 => ?_)
      · have hF := (if_neg hc_110).symm.trans hF
        refine gq_iconst hC (0 : Int32) dX11_readsSegment_91 (by decide) ?_
        refine gq_sub [(0, .ref h_t_), (2, .int ((10 : Int32) + ((12 : Int32) * l1_79)))] [1, 0] rfl ?_
        exact jb92 ((10 : Int32) + ((12 : Int32) * l1_79)) (0 : Int32) v_at_103 v_behind_104 v_kind_105 v_wrong_106 v_wrongAt_107 v_number_108 (vp_updL (vp_updL v_fresh_86 (((10 : Int32) + ((12 : Int32) * l1_79)) + (0 : Int32)).toNatClampNeg (r_94.toInt64)) (((10 : Int32) + ((12 : Int32) * l1_79)) + (1 : Int32)).toNatClampNeg (r_102.toInt64)) hF
      · have hF := (if_pos hc_110).symm.trans hF
        refine gq_iconst hC (1 : Int32) dX11_readsSegment_87 (by decide) ?_
        refine gq_goto hC 92 dX11_readsSegment_88 (by decide) ?_
        refine gq_sub [(0, .ref h_t_), (2, .int ((10 : Int32) + ((12 : Int32) * l1_79)))] [1, 0] rfl ?_
        exact jb92 ((10 : Int32) + ((12 : Int32) * l1_79)) (1 : Int32) v_at_103 v_behind_104 v_kind_105 v_wrong_106 v_wrongAt_107 v_number_108 (vp_updL (vp_updL v_fresh_86 (((10 : Int32) + ((12 : Int32) * l1_79)) + (0 : Int32)).toNatClampNeg (r_94.toInt64)) (((10 : Int32) + ((12 : Int32) * l1_79)) + (1 : Int32)).toNatClampNeg (r_102.toInt64)) hF
    · have hF := (if_neg hc_111).symm.trans hF
      cases hF
      rw [hQ]
      exact gq_vret hC dX11_readsSegment_38
  unfold F_X11_readsSegment at hF
  refine gq_aload_n hC 0 dX11_readsSegment_0 rfl rfl ?_
  refine gq_get hC (kf := 1) 0 hin_X11 rfl rfl (by decide) hw_13 rfl dX11_readsSegment_1 ?_
  refine gq_bipush hC (6 : Int32) dX11_readsSegment_4 (by decide) ?_
  obtain ⟨hi_112, hF⟩ := gi_e hF
  refine gq_lald hC 1 1 rfl rfl hi_112 dX11_readsSegment_6 ?_
  refine gq_l2i hC dX11_readsSegment_7 ?_
  refine gq_istore_n hC [(1, .int ((v_fresh (6 : Int32).toNatClampNeg).toInt32)), (0, .ref h_t_)] dX11_readsSegment_8 rfl (by decide) rfl ?_
  refine gq_iload_n hC 0 dX11_readsSegment_9 rfl rfl ?_
  refine gq_bipush hC (32 : Int32) dX11_readsSegment_10 (by decide) ?_
  refine gq_icmp_ne hC 21 dX11_readsSegment_12 (by decide) (fun hc_115 => ?_) (fun hc_115 => ?_)
  · have hF := (if_neg hc_115).symm.trans hF
    refine gq_sub [(0, .ref h_t_), (1, .int ((v_fresh (6 : Int32).toNatClampNeg).toInt32))] [1, 0] rfl ?_
    exact jb21 ((v_fresh (6 : Int32).toNatClampNeg).toInt32) v_at v_behind v_kind v_wrong v_wrongAt v_number v_fresh hF
  · have hF := (if_pos hc_115).symm.trans hF
    refine gq_aload_n hC 1 dX11_readsSegment_15 rfl rfl ?_
    refine gq_bipush hC (-4 : Int32) dX11_readsSegment_16 (by decide) ?_
    obtain ⟨v_wrong_113, v_wrongAt_114, hc_, hF⟩ := ob2_e hF
    refine gq_callVv hC [0] [(h_t_, .inr (11, [.ref h_a, .ref h_fresh, .ref h_kept, .int v_keptMany, .int v_thrown, .ref h_buffer, .int v_buffered, .int v_size, .int v_at, .int v_behind, .int v_kind, .int v_wrong_113, .int v_wrongAt_114, .int v_errorAt, .long v_number, .ref h_worthFrom, .ref h_cutsFrom, .ref h_endFrom, .ref h_changes, .ref h_waysFrom, .int v_toCut, .int v_toLeave, .ref h_costAt, .ref h_places, .ref h_isCut, .ref h_written, .int v_writtenMany])), (h_fresh, .inl (cJ, 499, .inr (.inl v_fresh))), (h_buffer, .inl (cI, 900, .inl v_buffer))] [.int (-4 : Int32)] [] (k_X11_fails l D cI cJ cZ cO z h_t_ h_a h_fresh h_kept h_buffer h_worthFrom h_cutsFrom h_endFrom h_changes h_waysFrom h_costAt h_places h_isCut h_written (-4 : Int32) v_keptMany v_thrown v_buffered v_size v_at v_behind v_kind v_wrong v_wrongAt v_errorAt v_number v_toCut v_toLeave v_writtenMany v_wrong_113 v_wrongAt_114 hc_) gX11_readsSegment_X11_fails rfl ⟨rfl, rfl⟩ hy_X11_fails ⟨Nat.le_of_ble_eq_true rfl, Nat.le_of_ble_eq_true rfl⟩ rfl rfl rfl (q0 := 0) rfl rfl rfl (Nat.le_of_ble_eq_true rfl) rfl dX11_readsSegment_18 rfl rfl ?_
    refine gq_sub [(0, .ref h_t_), (1, .int ((v_fresh (6 : Int32).toNatClampNeg).toInt32))] [1, 0] rfl ?_
    exact jb21 ((v_fresh (6 : Int32).toNatClampNeg).toInt32) v_at v_behind v_kind v_wrong_113 v_wrongAt_114 v_number v_fresh hF
theorem hy_X11_putsSlot : yX11_putsSlot.cls = RX11 ∧ yX11_putsSlot.cls ≠ "java/lang/invoke/MethodHandle" ∧ yX11_putsSlot.cls ≠ "java/lang/invoke/VarHandle" ∧ (parseMethodDescriptor yX11_putsSlot.desc).map (fun d => d.parameters.length) = some 4 := by decide +kernel
set_option maxRecDepth 20000 in
set_option maxHeartbeats 4000000 in
theorem k_X11_putsSlot (l : Launch) (D : va_G) (cI cJ cZ cO : ClassId) (z : Nat → Nat) (n0 : Nat)  (h_p0 : Nat) (x1 : Int32) (x2 : Int32) (x3 : Int32) (v_p0 : Nat → Int64) (r_ : Int32) (w_p0 : Nat → Int64) (hF : F_X11_putsSlot n0 x1 x2 x3 v_p0 = some (r_, w_p0)) : Mi l yX11_putsSlot wsX11_putsSlot (rmD 0) D (gq_ty cI cJ cZ cO) z [.ref h_p0, .int x1, .int x2, .int x3] [(h_p0, .inl (cJ, n0, .inr (.inl v_p0)))] r_ [(h_p0, .inl (cJ, n0, .inr (.inl w_p0)))] 0 0 := by
  refine Mi.of (cc := cX11_putsSlot) (maxL := 6) (by decide) rfl (Nat.le_of_ble_eq_true rfl) ⟨Nat.le_refl 0, Nat.le_refl 0⟩ ?_
  intro p e s m args below meth c A hC ha
  obtain ⟨Q, hQ⟩ : ∃ Q, Q = gq_Qi below D A args s r_ [(h_p0, .inl (cJ, n0, .inr (.inl w_p0)))] 0 0 := ⟨_, rfl⟩
  rw [← hQ]
  refine gq_loc [(0, .ref h_p0), (1, .int x1), (2, .int x2), (3, .int x3)] rfl ?_
  have jb36 : ∀ (l4_1 : Int32) (v_p0_2 : Nat → Int64), F_X11_putsSlot_b36 n0 x1 x2 x3 l4_1 v_p0_2 = some (r_, w_p0) → Gx p l e (rmD 0) s m args below meth c D A 6 Q 0 0 36 [(0, .ref h_p0), (1, .int x1), (2, .int x2), (3, .int x3), (4, .int l4_1)] [] [(h_p0, .inl (cJ, n0, .inr (.inl v_p0_2)))] := by
    intro l4_1 v_p0_2 hF
    unfold F_X11_putsSlot_b36 at hF
    refine gq_sipush hC (394 : Int32) dX11_putsSlot_36 (by decide) ?_
    refine gq_iconst hC (3 : Int32) dX11_putsSlot_39 (by decide) ?_
    refine gq_aload_n hC 0 dX11_putsSlot_40 rfl rfl ?_
    refine gq_bipush hC (8 : Int32) dX11_putsSlot_41 (by decide) ?_
    obtain ⟨hi_3, hF⟩ := gi_e hF
    refine gq_lald hC 0 1 rfl rfl hi_3 dX11_putsSlot_43 ?_
    refine gq_l2i hC dX11_putsSlot_44 ?_
    refine gq_imul hC dX11_putsSlot_45 ?_
    refine gq_iadd hC dX11_putsSlot_46 ?_
    refine gq_iconst hC (1 : Int32) dX11_putsSlot_47 (by decide) ?_
    refine gq_isub hC dX11_putsSlot_48 ?_
    refine gq_istore hC [(5, .int (((394 : Int32) + ((3 : Int32) * ((v_p0_2 (8 : Int32).toNatClampNeg).toInt32))) - (1 : Int32))), (0, .ref h_p0), (1, .int x1), (2, .int x2), (3, .int x3), (4, .int l4_1)] dX11_putsSlot_49 (by decide) rfl ?_
    have lp51 : ∀ (l4_4 : Int32), ∀ (e_10 : (Nat → Int64)), Gx p l e (rmD 0) s m args below meth c D A 6 Q 0 0 80 [(0, .ref h_p0), (1, .int x1), (2, .int x2), (3, .int x3), (4, .int l4_4)] [] [(h_p0, .inl (cJ, n0, .inr (.inl e_10)))] → ∀ (N : Nat) (l5_5 : Int32) (v_p0_6 : Nat → Int64), wh (fun k q => S_X11_putsSlot_51 n0 x1 x2 x3 l4_4 k q.1 q.2) N (l5_5, v_p0_6) = some e_10 → Gx p l e (rmD 0) s m args below meth c D A 6 Q 0 0 51 [(0, .ref h_p0), (1, .int x1), (2, .int x2), (3, .int x3), (4, .int l4_4), (5, .int l5_5)] [] [(h_p0, .inl (cJ, n0, .inr (.inl v_p0_6)))] := by
      intro l4_4 e_10 hx0 N
      induction N with
      | zero => intro l5_5 v_p0_6 hw; exact absurd hw (wh_0 _ _ _)
      | succ N ih =>
        intro l5_5 v_p0_6 hw
        have hF : S_X11_putsSlot_51 n0 x1 x2 x3 l4_4 (wh (fun k q => S_X11_putsSlot_51 n0 x1 x2 x3 l4_4 k q.1 q.2) N) l5_5 v_p0_6 = some e_10 := hw
        unfold S_X11_putsSlot_51 at hF
        refine gq_iload hC 5 dX11_putsSlot_51 rfl ?_
        refine gq_sipush hC (394 : Int32) dX11_putsSlot_53 (by decide) ?_
        refine gq_iconst hC (3 : Int32) dX11_putsSlot_56 (by decide) ?_
        refine gq_iload hC 4 dX11_putsSlot_57 rfl ?_
        refine gq_imul hC dX11_putsSlot_59 ?_
        refine gq_iadd hC dX11_putsSlot_60 ?_
        refine gq_icmp_lt hC 80 dX11_putsSlot_61 (by decide) (fun hc_9 => ?_) (fun hc_9 => ?_)
        · have hF := (if_pos hc_9).symm.trans hF
          refine gq_sub [(0, .ref h_p0), (1, .int x1), (2, .int x2), (3, .int x3), (4, .int l4_4)] [0, 1, 2, 3, 4] rfl ?_
          cases hF
          exact hx0
        · have hF := (if_neg hc_9).symm.trans hF
          refine gq_aload_n hC 0 dX11_putsSlot_64 rfl rfl ?_
          refine gq_iload hC 5 dX11_putsSlot_65 rfl ?_
          refine gq_iconst hC (3 : Int32) dX11_putsSlot_67 (by decide) ?_
          refine gq_iadd hC dX11_putsSlot_68 ?_
          refine gq_aload_n hC 0 dX11_putsSlot_69 rfl rfl ?_
          refine gq_iload hC 5 dX11_putsSlot_70 rfl ?_
          obtain ⟨hi_7, hF⟩ := gi_e hF
          refine gq_lald hC 0 1 rfl rfl hi_7 dX11_putsSlot_72 ?_
          obtain ⟨hi_8, hF⟩ := gi_e hF
          refine gq_last hC 0 1 [(h_p0, .inl (cJ, n0, .inr (.inl (vp_updL v_p0_6 (l5_5 + (3 : Int32)).toNatClampNeg (v_p0_6 l5_5.toNatClampNeg)))))] rfl rfl hi_8 dX11_putsSlot_73 rfl ?_
          refine gq_iinc hC 5 (l5_5 + (-1 : Int32)) [(5, .int (l5_5 + (-1 : Int32))), (0, .ref h_p0), (1, .int x1), (2, .int x2), (3, .int x3), (4, .int l4_4)] dX11_putsSlot_74 rfl rfl (by decide) rfl ?_
          refine gq_goto hC 51 dX11_putsSlot_77 (by decide) ?_
          refine gq_sub [(0, .ref h_p0), (1, .int x1), (2, .int x2), (3, .int x3), (4, .int l4_4), (5, .int (l5_5 + (-1 : Int32)))] [1, 2, 3, 4, 5, 0] rfl ?_
          exact ih (l5_5 + (-1 : Int32)) (vp_updL v_p0_6 (l5_5 + (3 : Int32)).toNatClampNeg (v_p0_6 l5_5.toNatClampNeg)) hF
    refine gq_sub [(0, .ref h_p0), (1, .int x1), (2, .int x2), (3, .int x3), (4, .int l4_1), (5, .int (((394 : Int32) + ((3 : Int32) * ((v_p0_2 (8 : Int32).toNatClampNeg).toInt32))) - (1 : Int32)))] [1, 2, 3, 4, 5, 0] rfl ?_
    obtain ⟨e_11, hw_, hF⟩ := ob1_e hF
    refine lp51 l4_1 e_11 ?_ wF (((394 : Int32) + ((3 : Int32) * ((v_p0_2 (8 : Int32).toNatClampNeg).toInt32))) - (1 : Int32)) v_p0_2 hw_
    refine gq_aload_n hC 0 dX11_putsSlot_80 rfl rfl ?_
    refine gq_sipush hC (394 : Int32) dX11_putsSlot_81 (by decide) ?_
    refine gq_iconst hC (3 : Int32) dX11_putsSlot_84 (by decide) ?_
    refine gq_iload hC 4 dX11_putsSlot_85 rfl ?_
    refine gq_imul hC dX11_putsSlot_87 ?_
    refine gq_iadd hC dX11_putsSlot_88 ?_
    refine gq_iload_n hC 1 dX11_putsSlot_89 rfl rfl ?_
    refine gq_i2l hC dX11_putsSlot_90 ?_
    obtain ⟨hi_12, hF⟩ := gi_e hF
    refine gq_last hC 0 1 [(h_p0, .inl (cJ, n0, .inr (.inl (vp_updL e_11 ((394 : Int32) + ((3 : Int32) * l4_1)).toNatClampNeg (x1.toInt64)))))] rfl rfl hi_12 dX11_putsSlot_91 rfl ?_
    refine gq_aload_n hC 0 dX11_putsSlot_92 rfl rfl ?_
    refine gq_sipush hC (394 : Int32) dX11_putsSlot_93 (by decide) ?_
    refine gq_iconst hC (3 : Int32) dX11_putsSlot_96 (by decide) ?_
    refine gq_iload hC 4 dX11_putsSlot_97 rfl ?_
    refine gq_imul hC dX11_putsSlot_99 ?_
    refine gq_iadd hC dX11_putsSlot_100 ?_
    refine gq_iconst hC (1 : Int32) dX11_putsSlot_101 (by decide) ?_
    refine gq_iadd hC dX11_putsSlot_102 ?_
    refine gq_iload_n hC 2 dX11_putsSlot_103 rfl rfl ?_
    refine gq_i2l hC dX11_putsSlot_104 ?_
    obtain ⟨hi_13, hF⟩ := gi_e hF
    refine gq_last hC 0 1 [(h_p0, .inl (cJ, n0, .inr (.inl (vp_updL (vp_updL e_11 ((394 : Int32) + ((3 : Int32) * l4_1)).toNatClampNeg (x1.toInt64)) (((394 : Int32) + ((3 : Int32) * l4_1)) + (1 : Int32)).toNatClampNeg (x2.toInt64)))))] rfl rfl hi_13 dX11_putsSlot_105 rfl ?_
    refine gq_aload_n hC 0 dX11_putsSlot_106 rfl rfl ?_
    refine gq_sipush hC (394 : Int32) dX11_putsSlot_107 (by decide) ?_
    refine gq_iconst hC (3 : Int32) dX11_putsSlot_110 (by decide) ?_
    refine gq_iload hC 4 dX11_putsSlot_111 rfl ?_
    refine gq_imul hC dX11_putsSlot_113 ?_
    refine gq_iadd hC dX11_putsSlot_114 ?_
    refine gq_iconst hC (2 : Int32) dX11_putsSlot_115 (by decide) ?_
    refine gq_iadd hC dX11_putsSlot_116 ?_
    refine gq_iload_n hC 3 dX11_putsSlot_117 rfl rfl ?_
    refine gq_i2l hC dX11_putsSlot_118 ?_
    obtain ⟨hi_14, hF⟩ := gi_e hF
    refine gq_last hC 0 1 [(h_p0, .inl (cJ, n0, .inr (.inl (vp_updL (vp_updL (vp_updL e_11 ((394 : Int32) + ((3 : Int32) * l4_1)).toNatClampNeg (x1.toInt64)) (((394 : Int32) + ((3 : Int32) * l4_1)) + (1 : Int32)).toNatClampNeg (x2.toInt64)) (((394 : Int32) + ((3 : Int32) * l4_1)) + (2 : Int32)).toNatClampNeg (x3.toInt64)))))] rfl rfl hi_14 dX11_putsSlot_119 rfl ?_
    refine gq_aload_n hC 0 dX11_putsSlot_120 rfl rfl ?_
    refine gq_bipush hC (8 : Int32) dX11_putsSlot_121 (by decide) ?_
    refine gq_dup2 hC dX11_putsSlot_123 rfl rfl ?_
    obtain ⟨hi_15, hF⟩ := gi_e hF
    refine gq_lald hC 0 1 rfl rfl hi_15 dX11_putsSlot_124 ?_
    refine gq_lconst hC (1 : Int64) dX11_putsSlot_125 (by decide) ?_
    refine gq_ladd hC dX11_putsSlot_126 ?_
    obtain ⟨hi_16, hF⟩ := gi_e hF
    refine gq_last hC 0 1 [(h_p0, .inl (cJ, n0, .inr (.inl (vp_updL (vp_updL (vp_updL (vp_updL e_11 ((394 : Int32) + ((3 : Int32) * l4_1)).toNatClampNeg (x1.toInt64)) (((394 : Int32) + ((3 : Int32) * l4_1)) + (1 : Int32)).toNatClampNeg (x2.toInt64)) (((394 : Int32) + ((3 : Int32) * l4_1)) + (2 : Int32)).toNatClampNeg (x3.toInt64)) (8 : Int32).toNatClampNeg (((vp_updL (vp_updL (vp_updL e_11 ((394 : Int32) + ((3 : Int32) * l4_1)).toNatClampNeg (x1.toInt64)) (((394 : Int32) + ((3 : Int32) * l4_1)) + (1 : Int32)).toNatClampNeg (x2.toInt64)) (((394 : Int32) + ((3 : Int32) * l4_1)) + (2 : Int32)).toNatClampNeg (x3.toInt64)) (8 : Int32).toNatClampNeg) + (1 : Int64))))))] rfl rfl hi_16 dX11_putsSlot_127 rfl ?_
    refine gq_iload hC 4 dX11_putsSlot_128 rfl ?_
    cases hF
    rw [hQ]
    exact gq_iret hC rfl dX11_putsSlot_130
  unfold F_X11_putsSlot at hF
  refine gq_iconst hC (0 : Int32) dX11_putsSlot_0 (by decide) ?_
  refine gq_istore hC [(4, .int (0 : Int32)), (0, .ref h_p0), (1, .int x1), (2, .int x2), (3, .int x3)] dX11_putsSlot_1 (by decide) rfl ?_
  have lp3 : ∀ (v_p0_18 : Nat → Int64), ∀ (e_23 : Int32), Gx p l e (rmD 0) s m args below meth c D A 6 Q 0 0 36 [(0, .ref h_p0), (1, .int x1), (2, .int x2), (3, .int x3), (4, .int e_23)] [] [(h_p0, .inl (cJ, n0, .inr (.inl v_p0_18)))] → ∀ (N : Nat) (l4_17 : Int32), wh (fun k q => S_X11_putsSlot_3 n0 x1 x2 x3 v_p0_18 k q) N l4_17 = some e_23 → Gx p l e (rmD 0) s m args below meth c D A 6 Q 0 0 3 [(0, .ref h_p0), (1, .int x1), (2, .int x2), (3, .int x3), (4, .int l4_17)] [] [(h_p0, .inl (cJ, n0, .inr (.inl v_p0_18)))] := by
    intro v_p0_18 e_23 hx0 N
    induction N with
    | zero => intro l4_17 hw; exact absurd hw (wh_0 _ _ _)
    | succ N ih =>
      intro l4_17 hw
      have hF : S_X11_putsSlot_3 n0 x1 x2 x3 v_p0_18 (wh (fun k q => S_X11_putsSlot_3 n0 x1 x2 x3 v_p0_18 k q) N) l4_17 = some e_23 := hw
      unfold S_X11_putsSlot_3 at hF
      refine gq_iload hC 4 dX11_putsSlot_3 rfl ?_
      refine gq_i2l hC dX11_putsSlot_5 ?_
      refine gq_aload_n hC 0 dX11_putsSlot_6 rfl rfl ?_
      refine gq_bipush hC (8 : Int32) dX11_putsSlot_7 (by decide) ?_
      obtain ⟨hi_19, hF⟩ := gi_e hF
      refine gq_lald hC 0 1 rfl rfl hi_19 dX11_putsSlot_9 ?_
      refine gq_lcmp hC dX11_putsSlot_10 ?_
      refine gq_if_ge hC 36 dX11_putsSlot_11 (by decide) (fun hc_22 => ?_) (fun hc_22 => ?_)
      · have hF := (if_pos hc_22).symm.trans hF
        cases hF
        exact hx0
      · have hF := (if_neg hc_22).symm.trans hF
        refine gq_aload_n hC 0 dX11_putsSlot_14 rfl rfl ?_
        refine gq_sipush hC (394 : Int32) dX11_putsSlot_15 (by decide) ?_
        refine gq_iconst hC (3 : Int32) dX11_putsSlot_18 (by decide) ?_
        refine gq_iload hC 4 dX11_putsSlot_19 rfl ?_
        refine gq_imul hC dX11_putsSlot_21 ?_
        refine gq_iadd hC dX11_putsSlot_22 ?_
        obtain ⟨hi_20, hF⟩ := gi_e hF
        refine gq_lald hC 0 1 rfl rfl hi_20 dX11_putsSlot_23 ?_
        refine gq_iload_n hC 1 dX11_putsSlot_24 rfl rfl ?_
        refine gq_i2l hC dX11_putsSlot_25 ?_
        refine gq_lcmp hC dX11_putsSlot_26 ?_
        refine gq_if_gt hC 36 dX11_putsSlot_27 (by decide) (fun hc_21 => ?_) (fun hc_21 => ?_)
        · have hF := (if_pos hc_21).symm.trans hF
          cases hF
          exact hx0
        · have hF := (if_neg hc_21).symm.trans hF
          refine gq_iinc hC 4 (l4_17 + (1 : Int32)) [(4, .int (l4_17 + (1 : Int32))), (0, .ref h_p0), (1, .int x1), (2, .int x2), (3, .int x3)] dX11_putsSlot_30 rfl rfl (by decide) rfl ?_
          refine gq_goto hC 3 dX11_putsSlot_33 (by decide) ?_
          refine gq_sub [(0, .ref h_p0), (1, .int x1), (2, .int x2), (3, .int x3), (4, .int (l4_17 + (1 : Int32)))] [1, 2, 3, 4, 0] rfl ?_
          exact ih (l4_17 + (1 : Int32)) hF
  refine gq_sub [(0, .ref h_p0), (1, .int x1), (2, .int x2), (3, .int x3), (4, .int (0 : Int32))] [1, 2, 3, 4, 0] rfl ?_
  obtain ⟨e_24, hw_, hF⟩ := ob1_e hF
  refine lp3 v_p0 e_24 ?_ wF (0 : Int32) hw_
  exact jb36 e_24 v_p0 hF
theorem hy_X11_readsSlot : yX11_readsSlot.cls = RX11 ∧ yX11_readsSlot.cls ≠ "java/lang/invoke/MethodHandle" ∧ yX11_readsSlot.cls ≠ "java/lang/invoke/VarHandle" ∧ (parseMethodDescriptor yX11_readsSlot.desc).map (fun d => d.parameters.length) = some 0 := by decide +kernel
set_option maxRecDepth 20000 in
set_option maxHeartbeats 4000000 in
theorem k_X11_readsSlot (l : Launch) (D : va_G) (cI cJ cZ cO : ClassId) (z : Nat → Nat)   (h_t_ : Nat) (h_fresh : Nat) (h_buffer : Nat) (h_a : Nat) (h_kept : Nat) (h_worthFrom : Nat) (h_cutsFrom : Nat) (h_endFrom : Nat) (h_changes : Nat) (h_waysFrom : Nat) (h_costAt : Nat) (h_places : Nat) (h_isCut : Nat) (h_written : Nat)  (v_keptMany : Int32) (v_thrown : Int32) (v_buffered : Int32) (v_size : Int32) (v_at : Int32) (v_behind : Int32) (v_kind : Int32) (v_wrong : Int32) (v_wrongAt : Int32) (v_errorAt : Int32) (v_number : Int64) (v_toCut : Int32) (v_toLeave : Int32) (v_writtenMany : Int32) (v_fresh : Nat → Int64) (v_buffer : Nat → Int32) (w_at : Int32) (w_behind : Int32) (w_kind : Int32) (w_wrong : Int32) (w_wrongAt : Int32) (w_number : Int64) (w_fresh : Nat → Int64) (hF : F_X11_readsSlot v_size v_at v_behind v_kind v_wrong v_wrongAt v_number v_fresh v_buffer = some (w_at, w_behind, w_kind, w_wrong, w_wrongAt, w_number, w_fresh)) : Mv l yX11_readsSlot wsX11_readsSlot (rmD 5) D (gq_ty cI cJ cZ cO) z [.ref h_t_] [(h_t_, .inr (11, [.ref h_a, .ref h_fresh, .ref h_kept, .int v_keptMany, .int v_thrown, .ref h_buffer, .int v_buffered, .int v_size, .int v_at, .int v_behind, .int v_kind, .int v_wrong, .int v_wrongAt, .int v_errorAt, .long v_number, .ref h_worthFrom, .ref h_cutsFrom, .ref h_endFrom, .ref h_changes, .ref h_waysFrom, .int v_toCut, .int v_toLeave, .ref h_costAt, .ref h_places, .ref h_isCut, .ref h_written, .int v_writtenMany])), (h_fresh, .inl (cJ, 499, .inr (.inl v_fresh))), (h_buffer, .inl (cI, 900, .inl v_buffer))] [(h_t_, .inr (11, [.ref h_a, .ref h_fresh, .ref h_kept, .int v_keptMany, .int v_thrown, .ref h_buffer, .int v_buffered, .int v_size, .int w_at, .int w_behind, .int w_kind, .int w_wrong, .int w_wrongAt, .int v_errorAt, .long w_number, .ref h_worthFrom, .ref h_cutsFrom, .ref h_endFrom, .ref h_changes, .ref h_waysFrom, .int v_toCut, .int v_toLeave, .ref h_costAt, .ref h_places, .ref h_isCut, .ref h_written, .int v_writtenMany])), (h_fresh, .inl (cJ, 499, .inr (.inl w_fresh))), (h_buffer, .inl (cI, 900, .inl v_buffer))] 0 0 := by
  refine Mv.of (cc := cX11_readsSlot) (maxL := 5) (by decide) rfl (Nat.le_of_ble_eq_true rfl) ⟨Nat.le_refl 0, Nat.le_refl 0⟩ ?_
  intro p e s m args below meth c A hC ha
  have hin_X11 : ∀ w ∈ wsX110, w ∈ wsX11_readsSlot := by decide +kernel
  have hw_13 : Cond.fieldLink RX11 13 (TX11 1).1 (TX11 1).2.1 (TX11 1).2.2.1 ∈ wsX11_readsSlot := by decide +kernel
  have hw_131 : Cond.fieldLink RX11 131 (TX11 11).1 (TX11 11).2.1 (TX11 11).2.2.1 ∈ wsX11_readsSlot := by decide +kernel
  obtain ⟨Q, hQ⟩ : ∃ Q, Q = gq_Qv below D A args s [(h_t_, .inr (11, [.ref h_a, .ref h_fresh, .ref h_kept, .int v_keptMany, .int v_thrown, .ref h_buffer, .int v_buffered, .int v_size, .int w_at, .int w_behind, .int w_kind, .int w_wrong, .int w_wrongAt, .int v_errorAt, .long w_number, .ref h_worthFrom, .ref h_cutsFrom, .ref h_endFrom, .ref h_changes, .ref h_waysFrom, .int v_toCut, .int v_toLeave, .ref h_costAt, .ref h_places, .ref h_isCut, .ref h_written, .int v_writtenMany])), (h_fresh, .inl (cJ, 499, .inr (.inl w_fresh))), (h_buffer, .inl (cI, 900, .inl v_buffer))] 0 0 := ⟨_, rfl⟩
  rw [← hQ]
  refine gq_loc [(0, .ref h_t_)] rfl ?_
  have jb20 : ∀ (v_at_1 : Int32) (v_behind_2 : Int32) (v_kind_3 : Int32) (v_wrong_4 : Int32) (v_wrongAt_5 : Int32) (v_number_6 : Int64) (v_fresh_7 : Nat → Int64), F_X11_readsSlot_b20 v_size v_at_1 v_behind_2 v_kind_3 v_wrong_4 v_wrongAt_5 v_number_6 v_fresh_7 v_buffer = some (w_at, w_behind, w_kind, w_wrong, w_wrongAt, w_number, w_fresh) → Gx p l e (rmD 5) s m args below meth c D A 5 Q 0 0 20 [(0, .ref h_t_)] [] [(h_t_, .inr (11, [.ref h_a, .ref h_fresh, .ref h_kept, .int v_keptMany, .int v_thrown, .ref h_buffer, .int v_buffered, .int v_size, .int v_at_1, .int v_behind_2, .int v_kind_3, .int v_wrong_4, .int v_wrongAt_5, .int v_errorAt, .long v_number_6, .ref h_worthFrom, .ref h_cutsFrom, .ref h_endFrom, .ref h_changes, .ref h_waysFrom, .int v_toCut, .int v_toLeave, .ref h_costAt, .ref h_places, .ref h_isCut, .ref h_written, .int v_writtenMany])), (h_fresh, .inl (cJ, 499, .inr (.inl v_fresh_7))), (h_buffer, .inl (cI, 900, .inl v_buffer))] := by
    intro v_at_1 v_behind_2 v_kind_3 v_wrong_4 v_wrongAt_5 v_number_6 v_fresh_7 hF
    unfold F_X11_readsSlot_b20 at hF
    refine gq_aload_n hC 0 dX11_readsSlot_20 rfl rfl ?_
    refine gq_aload_n hC 0 dX11_readsSlot_21 rfl rfl ?_
    refine gq_ldcS hC hC.2.2.2.2.2.2.2.2.2.2.2.2.2.2.1.2.2.2.1 dX11_readsSlot_22 ?_
    obtain ⟨r_8, hc_, hF⟩ := ob1_e hF
    refine gq_callVi hC [0, 2] [(h_t_, .inr (11, [.ref h_a, .ref h_fresh, .ref h_kept, .int v_keptMany, .int v_thrown, .ref h_buffer, .int v_buffered, .int v_size, .int v_at_1, .int v_behind_2, .int v_kind_3, .int v_wrong_4, .int v_wrongAt_5, .int v_errorAt, .long v_number_6, .ref h_worthFrom, .ref h_cutsFrom, .ref h_endFrom, .ref h_changes, .ref h_waysFrom, .int v_toCut, .int v_toLeave, .ref h_costAt, .ref h_places, .ref h_isCut, .ref h_written, .int v_writtenMany])), (h_fresh, .inl (cJ, 499, .inr (.inl v_fresh_7))), (h_buffer, .inl (cI, 900, .inl v_buffer))] [.ref (z 4)] [.ref h_t_] (k_X11_isWord l D cI cJ cZ cO z 1 (by decide) h_t_ h_buffer h_a h_fresh h_kept h_worthFrom h_cutsFrom h_endFrom h_changes h_waysFrom h_costAt h_places h_isCut h_written v_keptMany v_thrown v_buffered v_size v_at_1 v_behind_2 v_kind_3 v_wrong_4 v_wrongAt_5 v_errorAt v_number_6 v_toCut v_toLeave v_writtenMany v_buffer r_8 hc_) gX11_readsSlot_X11_isWord rfl ⟨rfl, rfl⟩ hy_X11_isWord ⟨Nat.le_of_ble_eq_true rfl, Nat.le_of_ble_eq_true rfl⟩ rfl rfl rfl (q0 := 0) rfl rfl rfl (Nat.le_of_ble_eq_true rfl) rfl dX11_readsSlot_24 rfl rfl ?_
    obtain ⟨v_at_9, v_behind_10, v_kind_11, v_wrong_12, v_wrongAt_13, v_number_14, hc_, hF⟩ := ob6_e hF
    refine gq_callVv hC [0, 2] [(h_t_, .inr (11, [.ref h_a, .ref h_fresh, .ref h_kept, .int v_keptMany, .int v_thrown, .ref h_buffer, .int v_buffered, .int v_size, .int v_at_9, .int v_behind_10, .int v_kind_11, .int v_wrong_12, .int v_wrongAt_13, .int v_errorAt, .long v_number_14, .ref h_worthFrom, .ref h_cutsFrom, .ref h_endFrom, .ref h_changes, .ref h_waysFrom, .int v_toCut, .int v_toLeave, .ref h_costAt, .ref h_places, .ref h_isCut, .ref h_written, .int v_writtenMany])), (h_fresh, .inl (cJ, 499, .inr (.inl v_fresh_7))), (h_buffer, .inl (cI, 900, .inl v_buffer))] [.int r_8] [] (k_X11_must l D cI cJ cZ cO z h_t_ h_buffer h_a h_fresh h_kept h_worthFrom h_cutsFrom h_endFrom h_changes h_waysFrom h_costAt h_places h_isCut h_written r_8 v_keptMany v_thrown v_buffered v_size v_at_1 v_behind_2 v_kind_3 v_wrong_4 v_wrongAt_5 v_errorAt v_number_6 v_toCut v_toLeave v_writtenMany v_buffer v_at_9 v_behind_10 v_kind_11 v_wrong_12 v_wrongAt_13 v_number_14 hc_) gX11_readsSlot_X11_must rfl ⟨rfl, rfl⟩ hy_X11_must ⟨Nat.le_of_ble_eq_true rfl, Nat.le_of_ble_eq_true rfl⟩ rfl rfl rfl (q0 := 0) rfl rfl rfl (Nat.le_of_ble_eq_true rfl) rfl dX11_readsSlot_27 rfl rfl ?_
    refine gq_aload_n hC 0 dX11_readsSlot_30 rfl rfl ?_
    refine gq_iconst hC (0 : Int32) dX11_readsSlot_31 (by decide) ?_
    refine gq_sipush hC (9999 : Int32) dX11_readsSlot_32 (by decide) ?_
    obtain ⟨r_15, v_at_16, v_behind_17, v_kind_18, v_wrong_19, v_wrongAt_20, v_number_21, hc_, hF⟩ := ob7_e hF
    refine gq_callVi hC [0, 2] [(h_t_, .inr (11, [.ref h_a, .ref h_fresh, .ref h_kept, .int v_keptMany, .int v_thrown, .ref h_buffer, .int v_buffered, .int v_size, .int v_at_16, .int v_behind_17, .int v_kind_18, .int v_wrong_19, .int v_wrongAt_20, .int v_errorAt, .long v_number_21, .ref h_worthFrom, .ref h_cutsFrom, .ref h_endFrom, .ref h_changes, .ref h_waysFrom, .int v_toCut, .int v_toLeave, .ref h_costAt, .ref h_places, .ref h_isCut, .ref h_written, .int v_writtenMany])), (h_fresh, .inl (cJ, 499, .inr (.inl v_fresh_7))), (h_buffer, .inl (cI, 900, .inl v_buffer))] [.int (0 : Int32), .int (9999 : Int32)] [] (k_X11_takes l D cI cJ cZ cO z h_t_ h_buffer h_a h_fresh h_kept h_worthFrom h_cutsFrom h_endFrom h_changes h_waysFrom h_costAt h_places h_isCut h_written (0 : Int32) (9999 : Int32) v_keptMany v_thrown v_buffered v_size v_at_9 v_behind_10 v_kind_11 v_wrong_12 v_wrongAt_13 v_errorAt v_number_14 v_toCut v_toLeave v_writtenMany v_buffer r_15 v_at_16 v_behind_17 v_kind_18 v_wrong_19 v_wrongAt_20 v_number_21 hc_) gX11_readsSlot_X11_takes rfl ⟨rfl, rfl⟩ hy_X11_takes ⟨Nat.le_of_ble_eq_true rfl, Nat.le_of_ble_eq_true rfl⟩ rfl rfl rfl (q0 := 0) rfl rfl rfl (Nat.le_of_ble_eq_true rfl) rfl dX11_readsSlot_35 rfl rfl ?_
    refine gq_istore_n hC [(1, .int r_15), (0, .ref h_t_)] dX11_readsSlot_38 rfl (by decide) rfl ?_
    refine gq_aload_n hC 1 dX11_readsSlot_39 rfl rfl ?_
    refine gq_iconst hC (1 : Int32) dX11_readsSlot_40 (by decide) ?_
    refine gq_sipush hC (300 : Int32) dX11_readsSlot_41 (by decide) ?_
    obtain ⟨r_22, v_at_23, v_behind_24, v_kind_25, v_wrong_26, v_wrongAt_27, v_number_28, hc_, hF⟩ := ob7_e hF
    refine gq_callVi hC [0, 2] [(h_t_, .inr (11, [.ref h_a, .ref h_fresh, .ref h_kept, .int v_keptMany, .int v_thrown, .ref h_buffer, .int v_buffered, .int v_size, .int v_at_23, .int v_behind_24, .int v_kind_25, .int v_wrong_26, .int v_wrongAt_27, .int v_errorAt, .long v_number_28, .ref h_worthFrom, .ref h_cutsFrom, .ref h_endFrom, .ref h_changes, .ref h_waysFrom, .int v_toCut, .int v_toLeave, .ref h_costAt, .ref h_places, .ref h_isCut, .ref h_written, .int v_writtenMany])), (h_fresh, .inl (cJ, 499, .inr (.inl v_fresh_7))), (h_buffer, .inl (cI, 900, .inl v_buffer))] [.int (1 : Int32), .int (300 : Int32)] [] (k_X11_takes l D cI cJ cZ cO z h_t_ h_buffer h_a h_fresh h_kept h_worthFrom h_cutsFrom h_endFrom h_changes h_waysFrom h_costAt h_places h_isCut h_written (1 : Int32) (300 : Int32) v_keptMany v_thrown v_buffered v_size v_at_16 v_behind_17 v_kind_18 v_wrong_19 v_wrongAt_20 v_errorAt v_number_21 v_toCut v_toLeave v_writtenMany v_buffer r_22 v_at_23 v_behind_24 v_kind_25 v_wrong_26 v_wrongAt_27 v_number_28 hc_) gX11_readsSlot_X11_takes rfl ⟨rfl, rfl⟩ hy_X11_takes ⟨Nat.le_of_ble_eq_true rfl, Nat.le_of_ble_eq_true rfl⟩ rfl rfl rfl (q0 := 0) rfl rfl rfl (Nat.le_of_ble_eq_true rfl) rfl dX11_readsSlot_44 rfl rfl ?_
    refine gq_istore_n hC [(2, .int r_22), (1, .int r_15), (0, .ref h_t_)] dX11_readsSlot_47 rfl (by decide) rfl ?_
    refine gq_aload_n hC 2 dX11_readsSlot_48 rfl rfl ?_
    refine gq_iconst hC (0 : Int32) dX11_readsSlot_49 (by decide) ?_
    refine gq_sipush hC (999 : Int32) dX11_readsSlot_50 (by decide) ?_
    obtain ⟨r_29, v_at_30, v_behind_31, v_kind_32, v_wrong_33, v_wrongAt_34, v_number_35, hc_, hF⟩ := ob7_e hF
    refine gq_callVi hC [0, 2] [(h_t_, .inr (11, [.ref h_a, .ref h_fresh, .ref h_kept, .int v_keptMany, .int v_thrown, .ref h_buffer, .int v_buffered, .int v_size, .int v_at_30, .int v_behind_31, .int v_kind_32, .int v_wrong_33, .int v_wrongAt_34, .int v_errorAt, .long v_number_35, .ref h_worthFrom, .ref h_cutsFrom, .ref h_endFrom, .ref h_changes, .ref h_waysFrom, .int v_toCut, .int v_toLeave, .ref h_costAt, .ref h_places, .ref h_isCut, .ref h_written, .int v_writtenMany])), (h_fresh, .inl (cJ, 499, .inr (.inl v_fresh_7))), (h_buffer, .inl (cI, 900, .inl v_buffer))] [.int (0 : Int32), .int (999 : Int32)] [] (k_X11_takes l D cI cJ cZ cO z h_t_ h_buffer h_a h_fresh h_kept h_worthFrom h_cutsFrom h_endFrom h_changes h_waysFrom h_costAt h_places h_isCut h_written (0 : Int32) (999 : Int32) v_keptMany v_thrown v_buffered v_size v_at_23 v_behind_24 v_kind_25 v_wrong_26 v_wrongAt_27 v_errorAt v_number_28 v_toCut v_toLeave v_writtenMany v_buffer r_29 v_at_30 v_behind_31 v_kind_32 v_wrong_33 v_wrongAt_34 v_number_35 hc_) gX11_readsSlot_X11_takes rfl ⟨rfl, rfl⟩ hy_X11_takes ⟨Nat.le_of_ble_eq_true rfl, Nat.le_of_ble_eq_true rfl⟩ rfl rfl rfl (q0 := 0) rfl rfl rfl (Nat.le_of_ble_eq_true rfl) rfl dX11_readsSlot_53 rfl rfl ?_
    refine gq_istore_n hC [(3, .int r_29), (2, .int r_22), (1, .int r_15), (0, .ref h_t_)] dX11_readsSlot_56 rfl (by decide) rfl ?_
    refine gq_aload_n hC 3 dX11_readsSlot_57 rfl rfl ?_
    refine gq_aload_n hC 3 dX11_readsSlot_58 rfl rfl ?_
    refine gq_bipush hC (59 : Int32) dX11_readsSlot_59 (by decide) ?_
    obtain ⟨r_36, hc_, hF⟩ := ob1_e hF
    refine gq_callVi hC [0, 2] [(h_t_, .inr (11, [.ref h_a, .ref h_fresh, .ref h_kept, .int v_keptMany, .int v_thrown, .ref h_buffer, .int v_buffered, .int v_size, .int v_at_30, .int v_behind_31, .int v_kind_32, .int v_wrong_33, .int v_wrongAt_34, .int v_errorAt, .long v_number_35, .ref h_worthFrom, .ref h_cutsFrom, .ref h_endFrom, .ref h_changes, .ref h_waysFrom, .int v_toCut, .int v_toLeave, .ref h_costAt, .ref h_places, .ref h_isCut, .ref h_written, .int v_writtenMany])), (h_fresh, .inl (cJ, 499, .inr (.inl v_fresh_7))), (h_buffer, .inl (cI, 900, .inl v_buffer))] [.int (59 : Int32)] [.ref h_t_] (k_X11_isSign l D cI cJ cZ cO z h_t_ h_buffer h_a h_fresh h_kept h_worthFrom h_cutsFrom h_endFrom h_changes h_waysFrom h_costAt h_places h_isCut h_written (59 : Int32) v_keptMany v_thrown v_buffered v_size v_at_30 v_behind_31 v_kind_32 v_wrong_33 v_wrongAt_34 v_errorAt v_number_35 v_toCut v_toLeave v_writtenMany v_buffer r_36 hc_) gX11_readsSlot_X11_isSign rfl ⟨rfl, rfl⟩ hy_X11_isSign ⟨Nat.le_of_ble_eq_true rfl, Nat.le_of_ble_eq_true rfl⟩ rfl rfl rfl (q0 := 0) rfl rfl rfl (Nat.le_of_ble_eq_true rfl) rfl dX11_readsSlot_61 rfl rfl ?_
    obtain ⟨v_at_37, v_behind_38, v_kind_39, v_wrong_40, v_wrongAt_41, v_number_42, hc_, hF⟩ := ob6_e hF
    refine gq_callVv hC [0, 2] [(h_t_, .inr (11, [.ref h_a, .ref h_fresh, .ref h_kept, .int v_keptMany, .int v_thrown, .ref h_buffer, .int v_buffered, .int v_size, .int v_at_37, .int v_behind_38, .int v_kind_39, .int v_wrong_40, .int v_wrongAt_41, .int v_errorAt, .long v_number_42, .ref h_worthFrom, .ref h_cutsFrom, .ref h_endFrom, .ref h_changes, .ref h_waysFrom, .int v_toCut, .int v_toLeave, .ref h_costAt, .ref h_places, .ref h_isCut, .ref h_written, .int v_writtenMany])), (h_fresh, .inl (cJ, 499, .inr (.inl v_fresh_7))), (h_buffer, .inl (cI, 900, .inl v_buffer))] [.int r_36] [] (k_X11_must l D cI cJ cZ cO z h_t_ h_buffer h_a h_fresh h_kept h_worthFrom h_cutsFrom h_endFrom h_changes h_waysFrom h_costAt h_places h_isCut h_written r_36 v_keptMany v_thrown v_buffered v_size v_at_30 v_behind_31 v_kind_32 v_wrong_33 v_wrongAt_34 v_errorAt v_number_35 v_toCut v_toLeave v_writtenMany v_buffer v_at_37 v_behind_38 v_kind_39 v_wrong_40 v_wrongAt_41 v_number_42 hc_) gX11_readsSlot_X11_must rfl ⟨rfl, rfl⟩ hy_X11_must ⟨Nat.le_of_ble_eq_true rfl, Nat.le_of_ble_eq_true rfl⟩ rfl rfl rfl (q0 := 0) rfl rfl rfl (Nat.le_of_ble_eq_true rfl) rfl dX11_readsSlot_64 rfl rfl ?_
    refine gq_aload_n hC 3 dX11_readsSlot_67 rfl rfl ?_
    refine gq_get hC (kf := 11) 0 hin_X11 rfl rfl (by decide) hw_131 rfl dX11_readsSlot_68 ?_
    refine gq_if_ne hC 86 dX11_readsSlot_71 (by decide) (fun hc_45 => ?_) (fun hc_45 => ?_)
    · have hF := (if_neg hc_45).symm.trans hF
      cases hF
      rw [hQ]
      exact gq_vret hC dX11_readsSlot_86
    · have hF := (if_pos hc_45).symm.trans hF
      refine gq_aload_n hC 3 dX11_readsSlot_74 rfl rfl ?_
      refine gq_get hC (kf := 1) 0 hin_X11 rfl rfl (by decide) hw_13 rfl dX11_readsSlot_75 ?_
      refine gq_iload_n hC 2 dX11_readsSlot_78 rfl rfl ?_
      refine gq_iload_n hC 1 dX11_readsSlot_79 rfl rfl ?_
      refine gq_iload_n hC 0 dX11_readsSlot_80 rfl rfl ?_
      obtain ⟨r_43, v_fresh_44, hc_, hF⟩ := ob2_e hF
      refine gq_callSi hC [1] [(h_t_, .inr (11, [.ref h_a, .ref h_fresh, .ref h_kept, .int v_keptMany, .int v_thrown, .ref h_buffer, .int v_buffered, .int v_size, .int v_at_37, .int v_behind_38, .int v_kind_39, .int v_wrong_40, .int v_wrongAt_41, .int v_errorAt, .long v_number_42, .ref h_worthFrom, .ref h_cutsFrom, .ref h_endFrom, .ref h_changes, .ref h_waysFrom, .int v_toCut, .int v_toLeave, .ref h_costAt, .ref h_places, .ref h_isCut, .ref h_written, .int v_writtenMany])), (h_fresh, .inl (cJ, 499, .inr (.inl v_fresh_44))), (h_buffer, .inl (cI, 900, .inl v_buffer))] [.ref h_fresh, .int r_15, .int r_22, .int r_29] [] (k_X11_putsSlot l D cI cJ cZ cO z 499 h_fresh r_15 r_22 r_29 v_fresh_7 r_43 v_fresh_44 hc_) gX11_readsSlot_X11_putsSlot rfl ⟨rfl, rfl⟩ hy_X11_putsSlot rfl ⟨Nat.le_of_ble_eq_true rfl, Nat.le_of_ble_eq_true rfl⟩ rfl rfl rfl (Nat.le_of_ble_eq_true rfl) rfl dX11_readsSlot_81 rfl rfl ?_
      refine gq_istore hC [(4, .int r_43), (3, .int r_29), (2, .int r_22), (1, .int r_15), (0, .ref h_t_)] dX11_readsSlot_84 (by decide) rfl ?_
      cases hF
      rw [hQ]
      exact gq_vret hC dX11_readsSlot_86
  unfold F_X11_readsSlot at hF
  refine gq_aload_n hC 0 dX11_readsSlot_0 rfl rfl ?_
  refine gq_get hC (kf := 1) 0 hin_X11 rfl rfl (by decide) hw_13 rfl dX11_readsSlot_1 ?_
  refine gq_bipush hC (8 : Int32) dX11_readsSlot_4 (by decide) ?_
  obtain ⟨hi_46, hF⟩ := gi_e hF
  refine gq_lald hC 1 1 rfl rfl hi_46 dX11_readsSlot_6 ?_
  refine gq_ldc2 hC (5 : Int64) dX11_readsSlot_7 (by decide +kernel) ?_
  refine gq_lcmp hC dX11_readsSlot_10 ?_
  refine gq_if_ne hC 20 dX11_readsSlot_11 (by decide) (fun hc_49 => ?_) (fun hc_49 => ?_)
  · have hF := (if_neg hc_49).symm.trans hF
    exact jb20 v_at v_behind v_kind v_wrong v_wrongAt v_number v_fresh hF
  · have hF := (if_pos hc_49).symm.trans hF
    refine gq_aload_n hC 0 dX11_readsSlot_14 rfl rfl ?_
    refine gq_bipush hC (-4 : Int32) dX11_readsSlot_15 (by decide) ?_
    obtain ⟨v_wrong_47, v_wrongAt_48, hc_, hF⟩ := ob2_e hF
    refine gq_callVv hC [0] [(h_t_, .inr (11, [.ref h_a, .ref h_fresh, .ref h_kept, .int v_keptMany, .int v_thrown, .ref h_buffer, .int v_buffered, .int v_size, .int v_at, .int v_behind, .int v_kind, .int v_wrong_47, .int v_wrongAt_48, .int v_errorAt, .long v_number, .ref h_worthFrom, .ref h_cutsFrom, .ref h_endFrom, .ref h_changes, .ref h_waysFrom, .int v_toCut, .int v_toLeave, .ref h_costAt, .ref h_places, .ref h_isCut, .ref h_written, .int v_writtenMany])), (h_fresh, .inl (cJ, 499, .inr (.inl v_fresh))), (h_buffer, .inl (cI, 900, .inl v_buffer))] [.int (-4 : Int32)] [] (k_X11_fails l D cI cJ cZ cO z h_t_ h_a h_fresh h_kept h_buffer h_worthFrom h_cutsFrom h_endFrom h_changes h_waysFrom h_costAt h_places h_isCut h_written (-4 : Int32) v_keptMany v_thrown v_buffered v_size v_at v_behind v_kind v_wrong v_wrongAt v_errorAt v_number v_toCut v_toLeave v_writtenMany v_wrong_47 v_wrongAt_48 hc_) gX11_readsSlot_X11_fails rfl ⟨rfl, rfl⟩ hy_X11_fails ⟨Nat.le_of_ble_eq_true rfl, Nat.le_of_ble_eq_true rfl⟩ rfl rfl rfl (q0 := 0) rfl rfl rfl (Nat.le_of_ble_eq_true rfl) rfl dX11_readsSlot_17 rfl rfl ?_
    exact jb20 v_at v_behind v_kind v_wrong_47 v_wrongAt_48 v_number v_fresh hF
theorem hy_X11_low : yX11_low.cls = RX11 ∧ yX11_low.cls ≠ "java/lang/invoke/MethodHandle" ∧ yX11_low.cls ≠ "java/lang/invoke/VarHandle" ∧ (parseMethodDescriptor yX11_low.desc).map (fun d => d.parameters.length) = some 1 := by decide +kernel
set_option maxRecDepth 20000 in
set_option maxHeartbeats 4000000 in
theorem k_X11_low (l : Launch) (D : va_G) (cI cJ cZ cO : ClassId) (z : Nat → Nat)    (x0 : Int32)  (r_ : Int32) (hF : F_X11_low x0 = some r_) : Mi l yX11_low wsX11_low (rmD 0) D (gq_ty cI cJ cZ cO) z [.int x0] [] r_ [] 0 0 := by
  refine Mi.of (cc := cX11_low) (maxL := 1) (by decide) rfl (Nat.le_of_ble_eq_true rfl) ⟨Nat.le_refl 0, Nat.le_refl 0⟩ ?_
  intro p e s m args below meth c A hC ha
  obtain ⟨Q, hQ⟩ : ∃ Q, Q = gq_Qi below D A args s r_ [] 0 0 := ⟨_, rfl⟩
  rw [← hQ]
  refine gq_loc [(0, .int x0)] rfl ?_
  unfold F_X11_low at hF
  refine gq_iload_n hC 0 dX11_low_0 rfl rfl ?_
  refine gq_iconst hC (3 : Int32) dX11_low_1 (by decide) ?_
  refine gq_icmp_ge hC 9 dX11_low_2 (by decide) (fun hc_1 => ?_) (fun hc_1 => ?_)
  · have hF := (if_pos hc_1).symm.trans hF
    refine gq_iconst hC (0 : Int32) dX11_low_9 (by decide) ?_
    cases hF
    rw [hQ]
    exact gq_iret hC rfl dX11_low_10
  · have hF := (if_neg hc_1).symm.trans hF
    refine gq_iconst hC (1 : Int32) dX11_low_5 (by decide) ?_
    refine gq_goto hC 10 dX11_low_6 (by decide) ?_
    cases hF
    rw [hQ]
    exact gq_iret hC rfl dX11_low_10
theorem hy_X11_high : yX11_high.cls = RX11 ∧ yX11_high.cls ≠ "java/lang/invoke/MethodHandle" ∧ yX11_high.cls ≠ "java/lang/invoke/VarHandle" ∧ (parseMethodDescriptor yX11_high.desc).map (fun d => d.parameters.length) = some 1 := by decide +kernel
set_option maxRecDepth 20000 in
set_option maxHeartbeats 4000000 in
theorem k_X11_high (l : Launch) (D : va_G) (cI cJ cZ cO : ClassId) (z : Nat → Nat)    (x0 : Int32)  (r_ : Int32) (hF : F_X11_high x0 = some r_) : Mi l yX11_high wsX11_high (rmD 0) D (gq_ty cI cJ cZ cO) z [.int x0] [] r_ [] 0 0 := by
  refine Mi.of (cc := cX11_high) (maxL := 1) (by decide) rfl (Nat.le_of_ble_eq_true rfl) ⟨Nat.le_refl 0, Nat.le_refl 0⟩ ?_
  intro p e s m args below meth c A hC ha
  obtain ⟨Q, hQ⟩ : ∃ Q, Q = gq_Qi below D A args s r_ [] 0 0 := ⟨_, rfl⟩
  rw [← hQ]
  refine gq_loc [(0, .int x0)] rfl ?_
  unfold F_X11_high at hF
  refine gq_iload_n hC 0 dX11_high_0 rfl rfl ?_
  by_cases hn_1 : x0 = 2
  · have hF := (if_pos hn_1).symm.trans hF
    refine gq_tblIn hC (off := 27) (v := 2) 28 dX11_high_1 hn_1 (by decide) (by decide) (by decide) (by decide) ?_
    refine gq_iconst hC (5 : Int32) dX11_high_28 (by decide) ?_
    cases hF
    rw [hQ]
    exact gq_iret hC rfl dX11_high_29
  · have hF := (if_neg hn_1).symm.trans hF
    by_cases hn_2 : x0 = 3
    · have hF := (if_pos hn_2).symm.trans hF
      refine gq_tblIn hC (off := 29) (v := 3) 30 dX11_high_1 hn_2 (by decide) (by decide) (by decide) (by decide) ?_
      refine gq_bipush hC (100 : Int32) dX11_high_30 (by decide) ?_
      cases hF
      rw [hQ]
      exact gq_iret hC rfl dX11_high_32
    · have hF := (if_neg hn_2).symm.trans hF
      by_cases hn_3 : x0 = 4
      · have hF := (if_pos hn_3).symm.trans hF
        refine gq_tblIn hC (off := 32) (v := 4) 33 dX11_high_1 hn_3 (by decide) (by decide) (by decide) (by decide) ?_
        refine gq_bipush hC (99 : Int32) dX11_high_33 (by decide) ?_
        cases hF
        rw [hQ]
        exact gq_iret hC rfl dX11_high_35
      · have hF := (if_neg hn_3).symm.trans hF
        refine gq_tblOut hC 36 dX11_high_1 (by have h9 : ∀ z : Int32, z.toInt = z.toInt := fun _ => rfl; have := lv_neT hn_1 (show (2 : Int32).toInt = 2 from by decide); have := lv_neT hn_2 (show (3 : Int32).toInt = 3 from by decide); have := lv_neT hn_3 (show (4 : Int32).toInt = 4 from by decide); omega) (by decide) ?_
        refine gq_sipush hC (9999 : Int32) dX11_high_36 (by decide) ?_
        cases hF
        rw [hQ]
        exact gq_iret hC rfl dX11_high_39
theorem hy_X11_readsSetting : yX11_readsSetting.cls = RX11 ∧ yX11_readsSetting.cls ≠ "java/lang/invoke/MethodHandle" ∧ yX11_readsSetting.cls ≠ "java/lang/invoke/VarHandle" ∧ (parseMethodDescriptor yX11_readsSetting.desc).map (fun d => d.parameters.length) = some 0 := by decide +kernel
set_option maxRecDepth 20000 in
set_option maxHeartbeats 4000000 in
theorem k_X11_readsSetting (l : Launch) (D : va_G) (cI cJ cZ cO : ClassId) (z : Nat → Nat)   (h_t_ : Nat) (h_fresh : Nat) (h_buffer : Nat) (h_a : Nat) (h_kept : Nat) (h_worthFrom : Nat) (h_cutsFrom : Nat) (h_endFrom : Nat) (h_changes : Nat) (h_waysFrom : Nat) (h_costAt : Nat) (h_places : Nat) (h_isCut : Nat) (h_written : Nat)  (v_keptMany : Int32) (v_thrown : Int32) (v_buffered : Int32) (v_size : Int32) (v_at : Int32) (v_behind : Int32) (v_kind : Int32) (v_wrong : Int32) (v_wrongAt : Int32) (v_errorAt : Int32) (v_number : Int64) (v_toCut : Int32) (v_toLeave : Int32) (v_writtenMany : Int32) (v_fresh : Nat → Int64) (v_buffer : Nat → Int32) (w_at : Int32) (w_behind : Int32) (w_kind : Int32) (w_wrong : Int32) (w_wrongAt : Int32) (w_number : Int64) (w_fresh : Nat → Int64) (hF : F_X11_readsSetting v_size v_at v_behind v_kind v_wrong v_wrongAt v_number v_fresh v_buffer = some (w_at, w_behind, w_kind, w_wrong, w_wrongAt, w_number, w_fresh)) : Mv l yX11_readsSetting wsX11_readsSetting (rmD 5) D (gq_ty cI cJ cZ cO) z [.ref h_t_] [(h_t_, .inr (11, [.ref h_a, .ref h_fresh, .ref h_kept, .int v_keptMany, .int v_thrown, .ref h_buffer, .int v_buffered, .int v_size, .int v_at, .int v_behind, .int v_kind, .int v_wrong, .int v_wrongAt, .int v_errorAt, .long v_number, .ref h_worthFrom, .ref h_cutsFrom, .ref h_endFrom, .ref h_changes, .ref h_waysFrom, .int v_toCut, .int v_toLeave, .ref h_costAt, .ref h_places, .ref h_isCut, .ref h_written, .int v_writtenMany])), (h_fresh, .inl (cJ, 499, .inr (.inl v_fresh))), (h_buffer, .inl (cI, 900, .inl v_buffer))] [(h_t_, .inr (11, [.ref h_a, .ref h_fresh, .ref h_kept, .int v_keptMany, .int v_thrown, .ref h_buffer, .int v_buffered, .int v_size, .int w_at, .int w_behind, .int w_kind, .int w_wrong, .int w_wrongAt, .int v_errorAt, .long w_number, .ref h_worthFrom, .ref h_cutsFrom, .ref h_endFrom, .ref h_changes, .ref h_waysFrom, .int v_toCut, .int v_toLeave, .ref h_costAt, .ref h_places, .ref h_isCut, .ref h_written, .int v_writtenMany])), (h_fresh, .inl (cJ, 499, .inr (.inl w_fresh))), (h_buffer, .inl (cI, 900, .inl v_buffer))] 0 0 := by
  refine Mv.of (cc := cX11_readsSetting) (maxL := 3) (by decide) rfl (Nat.le_of_ble_eq_true rfl) ⟨Nat.le_refl 0, Nat.le_refl 0⟩ ?_
  intro p e s m args below meth c A hC ha
  have hin_X11 : ∀ w ∈ wsX110, w ∈ wsX11_readsSetting := by decide +kernel
  have hw_13 : Cond.fieldLink RX11 13 (TX11 1).1 (TX11 1).2.1 (TX11 1).2.2.1 ∈ wsX11_readsSetting := by decide +kernel
  have hw_131 : Cond.fieldLink RX11 131 (TX11 11).1 (TX11 11).2.1 (TX11 11).2.2.1 ∈ wsX11_readsSetting := by decide +kernel
  obtain ⟨Q, hQ⟩ : ∃ Q, Q = gq_Qv below D A args s [(h_t_, .inr (11, [.ref h_a, .ref h_fresh, .ref h_kept, .int v_keptMany, .int v_thrown, .ref h_buffer, .int v_buffered, .int v_size, .int w_at, .int w_behind, .int w_kind, .int w_wrong, .int w_wrongAt, .int v_errorAt, .long w_number, .ref h_worthFrom, .ref h_cutsFrom, .ref h_endFrom, .ref h_changes, .ref h_waysFrom, .int v_toCut, .int v_toLeave, .ref h_costAt, .ref h_places, .ref h_isCut, .ref h_written, .int v_writtenMany])), (h_fresh, .inl (cJ, 499, .inr (.inl w_fresh))), (h_buffer, .inl (cI, 900, .inl v_buffer))] 0 0 := ⟨_, rfl⟩
  rw [← hQ]
  refine gq_loc [(0, .ref h_t_)] rfl ?_
  unfold F_X11_readsSetting at hF
  refine gq_aload_n hC 0 dX11_readsSetting_0 rfl rfl ?_
  refine gq_aload_n hC 0 dX11_readsSetting_1 rfl rfl ?_
  refine gq_ldcS hC hC.2.2.2.2.2.2.2.2.2.2.2.2.2.2.1.2.2.2.2.1 dX11_readsSetting_2 ?_
  obtain ⟨r_1, hc_, hF⟩ := ob1_e hF
  refine gq_callVi hC [0, 2] [(h_t_, .inr (11, [.ref h_a, .ref h_fresh, .ref h_kept, .int v_keptMany, .int v_thrown, .ref h_buffer, .int v_buffered, .int v_size, .int v_at, .int v_behind, .int v_kind, .int v_wrong, .int v_wrongAt, .int v_errorAt, .long v_number, .ref h_worthFrom, .ref h_cutsFrom, .ref h_endFrom, .ref h_changes, .ref h_waysFrom, .int v_toCut, .int v_toLeave, .ref h_costAt, .ref h_places, .ref h_isCut, .ref h_written, .int v_writtenMany])), (h_fresh, .inl (cJ, 499, .inr (.inl v_fresh))), (h_buffer, .inl (cI, 900, .inl v_buffer))] [.ref (z 5)] [.ref h_t_] (k_X11_isWord l D cI cJ cZ cO z 2 (by decide) h_t_ h_buffer h_a h_fresh h_kept h_worthFrom h_cutsFrom h_endFrom h_changes h_waysFrom h_costAt h_places h_isCut h_written v_keptMany v_thrown v_buffered v_size v_at v_behind v_kind v_wrong v_wrongAt v_errorAt v_number v_toCut v_toLeave v_writtenMany v_buffer r_1 hc_) gX11_readsSetting_X11_isWord rfl ⟨rfl, rfl⟩ hy_X11_isWord ⟨Nat.le_of_ble_eq_true rfl, Nat.le_of_ble_eq_true rfl⟩ rfl rfl rfl (q0 := 0) rfl rfl rfl (Nat.le_of_ble_eq_true rfl) rfl dX11_readsSetting_4 rfl rfl ?_
  obtain ⟨v_at_2, v_behind_3, v_kind_4, v_wrong_5, v_wrongAt_6, v_number_7, hc_, hF⟩ := ob6_e hF
  refine gq_callVv hC [0, 2] [(h_t_, .inr (11, [.ref h_a, .ref h_fresh, .ref h_kept, .int v_keptMany, .int v_thrown, .ref h_buffer, .int v_buffered, .int v_size, .int v_at_2, .int v_behind_3, .int v_kind_4, .int v_wrong_5, .int v_wrongAt_6, .int v_errorAt, .long v_number_7, .ref h_worthFrom, .ref h_cutsFrom, .ref h_endFrom, .ref h_changes, .ref h_waysFrom, .int v_toCut, .int v_toLeave, .ref h_costAt, .ref h_places, .ref h_isCut, .ref h_written, .int v_writtenMany])), (h_fresh, .inl (cJ, 499, .inr (.inl v_fresh))), (h_buffer, .inl (cI, 900, .inl v_buffer))] [.int r_1] [] (k_X11_must l D cI cJ cZ cO z h_t_ h_buffer h_a h_fresh h_kept h_worthFrom h_cutsFrom h_endFrom h_changes h_waysFrom h_costAt h_places h_isCut h_written r_1 v_keptMany v_thrown v_buffered v_size v_at v_behind v_kind v_wrong v_wrongAt v_errorAt v_number v_toCut v_toLeave v_writtenMany v_buffer v_at_2 v_behind_3 v_kind_4 v_wrong_5 v_wrongAt_6 v_number_7 hc_) gX11_readsSetting_X11_must rfl ⟨rfl, rfl⟩ hy_X11_must ⟨Nat.le_of_ble_eq_true rfl, Nat.le_of_ble_eq_true rfl⟩ rfl rfl rfl (q0 := 0) rfl rfl rfl (Nat.le_of_ble_eq_true rfl) rfl dX11_readsSetting_7 rfl rfl ?_
  refine gq_aload_n hC 0 dX11_readsSetting_10 rfl rfl ?_
  refine gq_iconst hC (0 : Int32) dX11_readsSetting_11 (by decide) ?_
  refine gq_iconst hC (5 : Int32) dX11_readsSetting_12 (by decide) ?_
  obtain ⟨r_8, v_at_9, v_behind_10, v_kind_11, v_wrong_12, v_wrongAt_13, v_number_14, hc_, hF⟩ := ob7_e hF
  refine gq_callVi hC [0, 2] [(h_t_, .inr (11, [.ref h_a, .ref h_fresh, .ref h_kept, .int v_keptMany, .int v_thrown, .ref h_buffer, .int v_buffered, .int v_size, .int v_at_9, .int v_behind_10, .int v_kind_11, .int v_wrong_12, .int v_wrongAt_13, .int v_errorAt, .long v_number_14, .ref h_worthFrom, .ref h_cutsFrom, .ref h_endFrom, .ref h_changes, .ref h_waysFrom, .int v_toCut, .int v_toLeave, .ref h_costAt, .ref h_places, .ref h_isCut, .ref h_written, .int v_writtenMany])), (h_fresh, .inl (cJ, 499, .inr (.inl v_fresh))), (h_buffer, .inl (cI, 900, .inl v_buffer))] [.int (0 : Int32), .int (5 : Int32)] [] (k_X11_takes l D cI cJ cZ cO z h_t_ h_buffer h_a h_fresh h_kept h_worthFrom h_cutsFrom h_endFrom h_changes h_waysFrom h_costAt h_places h_isCut h_written (0 : Int32) (5 : Int32) v_keptMany v_thrown v_buffered v_size v_at_2 v_behind_3 v_kind_4 v_wrong_5 v_wrongAt_6 v_errorAt v_number_7 v_toCut v_toLeave v_writtenMany v_buffer r_8 v_at_9 v_behind_10 v_kind_11 v_wrong_12 v_wrongAt_13 v_number_14 hc_) gX11_readsSetting_X11_takes rfl ⟨rfl, rfl⟩ hy_X11_takes ⟨Nat.le_of_ble_eq_true rfl, Nat.le_of_ble_eq_true rfl⟩ rfl rfl rfl (q0 := 0) rfl rfl rfl (Nat.le_of_ble_eq_true rfl) rfl dX11_readsSetting_13 rfl rfl ?_
  refine gq_istore_n hC [(1, .int r_8), (0, .ref h_t_)] dX11_readsSetting_16 rfl (by decide) rfl ?_
  refine gq_aload_n hC 1 dX11_readsSetting_17 rfl rfl ?_
  refine gq_iload_n hC 0 dX11_readsSetting_18 rfl rfl ?_
  obtain ⟨r_15, hc_, hF⟩ := ob1_e hF
  refine gq_callSi hC [] [(h_t_, .inr (11, [.ref h_a, .ref h_fresh, .ref h_kept, .int v_keptMany, .int v_thrown, .ref h_buffer, .int v_buffered, .int v_size, .int v_at_9, .int v_behind_10, .int v_kind_11, .int v_wrong_12, .int v_wrongAt_13, .int v_errorAt, .long v_number_14, .ref h_worthFrom, .ref h_cutsFrom, .ref h_endFrom, .ref h_changes, .ref h_waysFrom, .int v_toCut, .int v_toLeave, .ref h_costAt, .ref h_places, .ref h_isCut, .ref h_written, .int v_writtenMany])), (h_fresh, .inl (cJ, 499, .inr (.inl v_fresh))), (h_buffer, .inl (cI, 900, .inl v_buffer))] [.int r_8] [.ref h_t_] (k_X11_low l D cI cJ cZ cO z  r_8 r_15 hc_) gX11_readsSetting_X11_low rfl ⟨rfl, rfl⟩ hy_X11_low rfl ⟨Nat.le_of_ble_eq_true rfl, Nat.le_of_ble_eq_true rfl⟩ rfl rfl rfl (Nat.le_of_ble_eq_true rfl) rfl dX11_readsSetting_19 rfl rfl ?_
  refine gq_iload_n hC 0 dX11_readsSetting_22 rfl rfl ?_
  obtain ⟨r_16, hc_, hF⟩ := ob1_e hF
  refine gq_callSi hC [] [(h_t_, .inr (11, [.ref h_a, .ref h_fresh, .ref h_kept, .int v_keptMany, .int v_thrown, .ref h_buffer, .int v_buffered, .int v_size, .int v_at_9, .int v_behind_10, .int v_kind_11, .int v_wrong_12, .int v_wrongAt_13, .int v_errorAt, .long v_number_14, .ref h_worthFrom, .ref h_cutsFrom, .ref h_endFrom, .ref h_changes, .ref h_waysFrom, .int v_toCut, .int v_toLeave, .ref h_costAt, .ref h_places, .ref h_isCut, .ref h_written, .int v_writtenMany])), (h_fresh, .inl (cJ, 499, .inr (.inl v_fresh))), (h_buffer, .inl (cI, 900, .inl v_buffer))] [.int r_8] [.int r_15, .ref h_t_] (k_X11_high l D cI cJ cZ cO z  r_8 r_16 hc_) gX11_readsSetting_X11_high rfl ⟨rfl, rfl⟩ hy_X11_high rfl ⟨Nat.le_of_ble_eq_true rfl, Nat.le_of_ble_eq_true rfl⟩ rfl rfl rfl (Nat.le_of_ble_eq_true rfl) rfl dX11_readsSetting_23 rfl rfl ?_
  obtain ⟨r_17, v_at_18, v_behind_19, v_kind_20, v_wrong_21, v_wrongAt_22, v_number_23, hc_, hF⟩ := ob7_e hF
  refine gq_callVi hC [0, 2] [(h_t_, .inr (11, [.ref h_a, .ref h_fresh, .ref h_kept, .int v_keptMany, .int v_thrown, .ref h_buffer, .int v_buffered, .int v_size, .int v_at_18, .int v_behind_19, .int v_kind_20, .int v_wrong_21, .int v_wrongAt_22, .int v_errorAt, .long v_number_23, .ref h_worthFrom, .ref h_cutsFrom, .ref h_endFrom, .ref h_changes, .ref h_waysFrom, .int v_toCut, .int v_toLeave, .ref h_costAt, .ref h_places, .ref h_isCut, .ref h_written, .int v_writtenMany])), (h_fresh, .inl (cJ, 499, .inr (.inl v_fresh))), (h_buffer, .inl (cI, 900, .inl v_buffer))] [.int r_15, .int r_16] [] (k_X11_takes l D cI cJ cZ cO z h_t_ h_buffer h_a h_fresh h_kept h_worthFrom h_cutsFrom h_endFrom h_changes h_waysFrom h_costAt h_places h_isCut h_written r_15 r_16 v_keptMany v_thrown v_buffered v_size v_at_9 v_behind_10 v_kind_11 v_wrong_12 v_wrongAt_13 v_errorAt v_number_14 v_toCut v_toLeave v_writtenMany v_buffer r_17 v_at_18 v_behind_19 v_kind_20 v_wrong_21 v_wrongAt_22 v_number_23 hc_) gX11_readsSetting_X11_takes rfl ⟨rfl, rfl⟩ hy_X11_takes ⟨Nat.le_of_ble_eq_true rfl, Nat.le_of_ble_eq_true rfl⟩ rfl rfl rfl (q0 := 0) rfl rfl rfl (Nat.le_of_ble_eq_true rfl) rfl dX11_readsSetting_26 rfl rfl ?_
  refine gq_istore_n hC [(2, .int r_17), (1, .int r_8), (0, .ref h_t_)] dX11_readsSetting_29 rfl (by decide) rfl ?_
  refine gq_aload_n hC 2 dX11_readsSetting_30 rfl rfl ?_
  refine gq_aload_n hC 2 dX11_readsSetting_31 rfl rfl ?_
  refine gq_bipush hC (59 : Int32) dX11_readsSetting_32 (by decide) ?_
  obtain ⟨r_24, hc_, hF⟩ := ob1_e hF
  refine gq_callVi hC [0, 2] [(h_t_, .inr (11, [.ref h_a, .ref h_fresh, .ref h_kept, .int v_keptMany, .int v_thrown, .ref h_buffer, .int v_buffered, .int v_size, .int v_at_18, .int v_behind_19, .int v_kind_20, .int v_wrong_21, .int v_wrongAt_22, .int v_errorAt, .long v_number_23, .ref h_worthFrom, .ref h_cutsFrom, .ref h_endFrom, .ref h_changes, .ref h_waysFrom, .int v_toCut, .int v_toLeave, .ref h_costAt, .ref h_places, .ref h_isCut, .ref h_written, .int v_writtenMany])), (h_fresh, .inl (cJ, 499, .inr (.inl v_fresh))), (h_buffer, .inl (cI, 900, .inl v_buffer))] [.int (59 : Int32)] [.ref h_t_] (k_X11_isSign l D cI cJ cZ cO z h_t_ h_buffer h_a h_fresh h_kept h_worthFrom h_cutsFrom h_endFrom h_changes h_waysFrom h_costAt h_places h_isCut h_written (59 : Int32) v_keptMany v_thrown v_buffered v_size v_at_18 v_behind_19 v_kind_20 v_wrong_21 v_wrongAt_22 v_errorAt v_number_23 v_toCut v_toLeave v_writtenMany v_buffer r_24 hc_) gX11_readsSetting_X11_isSign rfl ⟨rfl, rfl⟩ hy_X11_isSign ⟨Nat.le_of_ble_eq_true rfl, Nat.le_of_ble_eq_true rfl⟩ rfl rfl rfl (q0 := 0) rfl rfl rfl (Nat.le_of_ble_eq_true rfl) rfl dX11_readsSetting_34 rfl rfl ?_
  obtain ⟨v_at_25, v_behind_26, v_kind_27, v_wrong_28, v_wrongAt_29, v_number_30, hc_, hF⟩ := ob6_e hF
  refine gq_callVv hC [0, 2] [(h_t_, .inr (11, [.ref h_a, .ref h_fresh, .ref h_kept, .int v_keptMany, .int v_thrown, .ref h_buffer, .int v_buffered, .int v_size, .int v_at_25, .int v_behind_26, .int v_kind_27, .int v_wrong_28, .int v_wrongAt_29, .int v_errorAt, .long v_number_30, .ref h_worthFrom, .ref h_cutsFrom, .ref h_endFrom, .ref h_changes, .ref h_waysFrom, .int v_toCut, .int v_toLeave, .ref h_costAt, .ref h_places, .ref h_isCut, .ref h_written, .int v_writtenMany])), (h_fresh, .inl (cJ, 499, .inr (.inl v_fresh))), (h_buffer, .inl (cI, 900, .inl v_buffer))] [.int r_24] [] (k_X11_must l D cI cJ cZ cO z h_t_ h_buffer h_a h_fresh h_kept h_worthFrom h_cutsFrom h_endFrom h_changes h_waysFrom h_costAt h_places h_isCut h_written r_24 v_keptMany v_thrown v_buffered v_size v_at_18 v_behind_19 v_kind_20 v_wrong_21 v_wrongAt_22 v_errorAt v_number_23 v_toCut v_toLeave v_writtenMany v_buffer v_at_25 v_behind_26 v_kind_27 v_wrong_28 v_wrongAt_29 v_number_30 hc_) gX11_readsSetting_X11_must rfl ⟨rfl, rfl⟩ hy_X11_must ⟨Nat.le_of_ble_eq_true rfl, Nat.le_of_ble_eq_true rfl⟩ rfl rfl rfl (q0 := 0) rfl rfl rfl (Nat.le_of_ble_eq_true rfl) rfl dX11_readsSetting_37 rfl rfl ?_
  refine gq_aload_n hC 2 dX11_readsSetting_40 rfl rfl ?_
  refine gq_get hC (kf := 11) 0 hin_X11 rfl rfl (by decide) hw_131 rfl dX11_readsSetting_41 ?_
  refine gq_if_ne hC 55 dX11_readsSetting_44 (by decide) (fun hc_32 => ?_) (fun hc_32 => ?_)
  · have hF := (if_neg hc_32).symm.trans hF
    cases hF
    rw [hQ]
    exact gq_vret hC dX11_readsSetting_55
  · have hF := (if_pos hc_32).symm.trans hF
    refine gq_aload_n hC 2 dX11_readsSetting_47 rfl rfl ?_
    refine gq_get hC (kf := 1) 0 hin_X11 rfl rfl (by decide) hw_13 rfl dX11_readsSetting_48 ?_
    refine gq_iload_n hC 1 dX11_readsSetting_51 rfl rfl ?_
    refine gq_iload_n hC 0 dX11_readsSetting_52 rfl rfl ?_
    refine gq_i2l hC dX11_readsSetting_53 ?_
    obtain ⟨hi_31, hF⟩ := gi_e hF
    refine gq_last hC 1 1 [(h_t_, .inr (11, [.ref h_a, .ref h_fresh, .ref h_kept, .int v_keptMany, .int v_thrown, .ref h_buffer, .int v_buffered, .int v_size, .int v_at_25, .int v_behind_26, .int v_kind_27, .int v_wrong_28, .int v_wrongAt_29, .int v_errorAt, .long v_number_30, .ref h_worthFrom, .ref h_cutsFrom, .ref h_endFrom, .ref h_changes, .ref h_waysFrom, .int v_toCut, .int v_toLeave, .ref h_costAt, .ref h_places, .ref h_isCut, .ref h_written, .int v_writtenMany])), (h_fresh, .inl (cJ, 499, .inr (.inl (vp_updL v_fresh r_8.toNatClampNeg (r_17.toInt64))))), (h_buffer, .inl (cI, 900, .inl v_buffer))] rfl rfl hi_31 dX11_readsSetting_54 rfl ?_
    cases hF
    rw [hQ]
    exact gq_vret hC dX11_readsSetting_55
theorem hy_X11_keeps : yX11_keeps.cls = RX11 ∧ yX11_keeps.cls ≠ "java/lang/invoke/MethodHandle" ∧ yX11_keeps.cls ≠ "java/lang/invoke/VarHandle" ∧ (parseMethodDescriptor yX11_keeps.desc).map (fun d => d.parameters.length) = some 0 := by decide +kernel
set_option maxRecDepth 20000 in
set_option maxHeartbeats 4000000 in
theorem k_X11_keeps (l : Launch) (D : va_G) (cI cJ cZ cO : ClassId) (z : Nat → Nat)   (h_t_ : Nat) (h_a : Nat) (h_kept : Nat) (h_fresh : Nat) (h_buffer : Nat) (h_worthFrom : Nat) (h_cutsFrom : Nat) (h_endFrom : Nat) (h_changes : Nat) (h_waysFrom : Nat) (h_costAt : Nat) (h_places : Nat) (h_isCut : Nat) (h_written : Nat)  (v_keptMany : Int32) (v_thrown : Int32) (v_buffered : Int32) (v_size : Int32) (v_at : Int32) (v_behind : Int32) (v_kind : Int32) (v_wrong : Int32) (v_wrongAt : Int32) (v_errorAt : Int32) (v_number : Int64) (v_toCut : Int32) (v_toLeave : Int32) (v_writtenMany : Int32) (v_a : Nat → Int64) (v_kept : Nat → Int64) (w_keptMany : Int32) (w_kept : Nat → Int64) (hF : F_X11_keeps v_keptMany v_a v_kept = some (w_keptMany, w_kept)) : Mv l yX11_keeps wsX11_keeps (rmD 0) D (gq_ty cI cJ cZ cO) z [.ref h_t_] [(h_t_, .inr (11, [.ref h_a, .ref h_fresh, .ref h_kept, .int v_keptMany, .int v_thrown, .ref h_buffer, .int v_buffered, .int v_size, .int v_at, .int v_behind, .int v_kind, .int v_wrong, .int v_wrongAt, .int v_errorAt, .long v_number, .ref h_worthFrom, .ref h_cutsFrom, .ref h_endFrom, .ref h_changes, .ref h_waysFrom, .int v_toCut, .int v_toLeave, .ref h_costAt, .ref h_places, .ref h_isCut, .ref h_written, .int v_writtenMany])), (h_a, .inl (cJ, 499, .inr (.inl v_a))), (h_kept, .inl (cJ, 3992, .inr (.inl v_kept)))] [(h_t_, .inr (11, [.ref h_a, .ref h_fresh, .ref h_kept, .int w_keptMany, .int v_thrown, .ref h_buffer, .int v_buffered, .int v_size, .int v_at, .int v_behind, .int v_kind, .int v_wrong, .int v_wrongAt, .int v_errorAt, .long v_number, .ref h_worthFrom, .ref h_cutsFrom, .ref h_endFrom, .ref h_changes, .ref h_waysFrom, .int v_toCut, .int v_toLeave, .ref h_costAt, .ref h_places, .ref h_isCut, .ref h_written, .int v_writtenMany])), (h_a, .inl (cJ, 499, .inr (.inl v_a))), (h_kept, .inl (cJ, 3992, .inr (.inl w_kept)))] 0 0 := by
  refine Mv.of (cc := cX11_keeps) (maxL := 2) (by decide) rfl (Nat.le_of_ble_eq_true rfl) ⟨Nat.le_refl 0, Nat.le_refl 0⟩ ?_
  intro p e s m args below meth c A hC ha
  have hin_X11 : ∀ w ∈ wsX110, w ∈ wsX11_keeps := by decide +kernel
  have hw_9 : Cond.fieldLink RX11 9 (TX11 0).1 (TX11 0).2.1 (TX11 0).2.2.1 ∈ wsX11_keeps := by decide +kernel
  have hw_16 : Cond.fieldLink RX11 16 (TX11 2).1 (TX11 2).2.1 (TX11 2).2.2.1 ∈ wsX11_keeps := by decide +kernel
  have hw_82 : Cond.fieldLink RX11 82 (TX11 3).1 (TX11 3).2.1 (TX11 3).2.2.1 ∈ wsX11_keeps := by decide +kernel
  obtain ⟨Q, hQ⟩ : ∃ Q, Q = gq_Qv below D A args s [(h_t_, .inr (11, [.ref h_a, .ref h_fresh, .ref h_kept, .int w_keptMany, .int v_thrown, .ref h_buffer, .int v_buffered, .int v_size, .int v_at, .int v_behind, .int v_kind, .int v_wrong, .int v_wrongAt, .int v_errorAt, .long v_number, .ref h_worthFrom, .ref h_cutsFrom, .ref h_endFrom, .ref h_changes, .ref h_waysFrom, .int v_toCut, .int v_toLeave, .ref h_costAt, .ref h_places, .ref h_isCut, .ref h_written, .int v_writtenMany])), (h_a, .inl (cJ, 499, .inr (.inl v_a))), (h_kept, .inl (cJ, 3992, .inr (.inl w_kept)))] 0 0 := ⟨_, rfl⟩
  rw [← hQ]
  refine gq_loc [(0, .ref h_t_)] rfl ?_
  have jb50 : ∀ (v_keptMany_1 : Int32) (v_kept_2 : Nat → Int64), F_X11_keeps_b50 v_keptMany_1 v_a v_kept_2 = some (w_keptMany, w_kept) → Gx p l e (rmD 0) s m args below meth c D A 2 Q 0 0 50 [(0, .ref h_t_)] [] [(h_t_, .inr (11, [.ref h_a, .ref h_fresh, .ref h_kept, .int v_keptMany_1, .int v_thrown, .ref h_buffer, .int v_buffered, .int v_size, .int v_at, .int v_behind, .int v_kind, .int v_wrong, .int v_wrongAt, .int v_errorAt, .long v_number, .ref h_worthFrom, .ref h_cutsFrom, .ref h_endFrom, .ref h_changes, .ref h_waysFrom, .int v_toCut, .int v_toLeave, .ref h_costAt, .ref h_places, .ref h_isCut, .ref h_written, .int v_writtenMany])), (h_a, .inl (cJ, 499, .inr (.inl v_a))), (h_kept, .inl (cJ, 3992, .inr (.inl v_kept_2)))] := by
    intro v_keptMany_1 v_kept_2 hF
    unfold F_X11_keeps_b50 at hF
    refine gq_iconst hC (0 : Int32) dX11_keeps_50 (by decide) ?_
    refine gq_istore_n hC [(1, .int (0 : Int32)), (0, .ref h_t_)] dX11_keeps_51 rfl (by decide) rfl ?_
    have lp52 : ∀ (v_keptMany_4 : Int32), ∀ (e_9 : (Nat → Int64)), Gx p l e (rmD 0) s m args below meth c D A 2 Q 0 0 86 [(0, .ref h_t_)] [] [(h_t_, .inr (11, [.ref h_a, .ref h_fresh, .ref h_kept, .int v_keptMany_4, .int v_thrown, .ref h_buffer, .int v_buffered, .int v_size, .int v_at, .int v_behind, .int v_kind, .int v_wrong, .int v_wrongAt, .int v_errorAt, .long v_number, .ref h_worthFrom, .ref h_cutsFrom, .ref h_endFrom, .ref h_changes, .ref h_waysFrom, .int v_toCut, .int v_toLeave, .ref h_costAt, .ref h_places, .ref h_isCut, .ref h_written, .int v_writtenMany])), (h_a, .inl (cJ, 499, .inr (.inl v_a))), (h_kept, .inl (cJ, 3992, .inr (.inl e_9)))] → ∀ (N : Nat) (l1_3 : Int32) (v_kept_5 : Nat → Int64), wh (fun k q => S_X11_keeps_52 v_keptMany_4 v_a k q.1 q.2) N (l1_3, v_kept_5) = some e_9 → Gx p l e (rmD 0) s m args below meth c D A 2 Q 0 0 52 [(0, .ref h_t_), (1, .int l1_3)] [] [(h_t_, .inr (11, [.ref h_a, .ref h_fresh, .ref h_kept, .int v_keptMany_4, .int v_thrown, .ref h_buffer, .int v_buffered, .int v_size, .int v_at, .int v_behind, .int v_kind, .int v_wrong, .int v_wrongAt, .int v_errorAt, .long v_number, .ref h_worthFrom, .ref h_cutsFrom, .ref h_endFrom, .ref h_changes, .ref h_waysFrom, .int v_toCut, .int v_toLeave, .ref h_costAt, .ref h_places, .ref h_isCut, .ref h_written, .int v_writtenMany])), (h_a, .inl (cJ, 499, .inr (.inl v_a))), (h_kept, .inl (cJ, 3992, .inr (.inl v_kept_5)))] := by
      intro v_keptMany_4 e_9 hx0 N
      induction N with
      | zero => intro l1_3 v_kept_5 hw; exact absurd hw (wh_0 _ _ _)
      | succ N ih =>
        intro l1_3 v_kept_5 hw
        have hF : S_X11_keeps_52 v_keptMany_4 v_a (wh (fun k q => S_X11_keeps_52 v_keptMany_4 v_a k q.1 q.2) N) l1_3 v_kept_5 = some e_9 := hw
        unfold S_X11_keeps_52 at hF
        refine gq_iload_n hC 1 dX11_keeps_52 rfl rfl ?_
        refine gq_sipush hC (499 : Int32) dX11_keeps_53 (by decide) ?_
        refine gq_icmp_ge hC 86 dX11_keeps_56 (by decide) (fun hc_8 => ?_) (fun hc_8 => ?_)
        · have hF := (if_pos hc_8).symm.trans hF
          refine gq_sub [(0, .ref h_t_)] [0] rfl ?_
          cases hF
          exact hx0
        · have hF := (if_neg hc_8).symm.trans hF
          refine gq_aload_n hC 0 dX11_keeps_59 rfl rfl ?_
          refine gq_get hC (kf := 2) 0 hin_X11 rfl rfl (by decide) hw_16 rfl dX11_keeps_60 ?_
          refine gq_sipush hC (499 : Int32) dX11_keeps_63 (by decide) ?_
          refine gq_aload_n hC 0 dX11_keeps_66 rfl rfl ?_
          refine gq_get hC (kf := 3) 0 hin_X11 rfl rfl (by decide) hw_82 rfl dX11_keeps_67 ?_
          refine gq_imul hC dX11_keeps_70 ?_
          refine gq_iload_n hC 1 dX11_keeps_71 rfl rfl ?_
          refine gq_iadd hC dX11_keeps_72 ?_
          refine gq_aload_n hC 0 dX11_keeps_73 rfl rfl ?_
          refine gq_get hC (kf := 0) 0 hin_X11 rfl rfl (by decide) hw_9 rfl dX11_keeps_74 ?_
          refine gq_iload_n hC 1 dX11_keeps_77 rfl rfl ?_
          obtain ⟨hi_6, hF⟩ := gi_e hF
          refine gq_lald hC 1 1 rfl rfl hi_6 dX11_keeps_78 ?_
          obtain ⟨hi_7, hF⟩ := gi_e hF
          refine gq_last hC 2 1 [(h_t_, .inr (11, [.ref h_a, .ref h_fresh, .ref h_kept, .int v_keptMany_4, .int v_thrown, .ref h_buffer, .int v_buffered, .int v_size, .int v_at, .int v_behind, .int v_kind, .int v_wrong, .int v_wrongAt, .int v_errorAt, .long v_number, .ref h_worthFrom, .ref h_cutsFrom, .ref h_endFrom, .ref h_changes, .ref h_waysFrom, .int v_toCut, .int v_toLeave, .ref h_costAt, .ref h_places, .ref h_isCut, .ref h_written, .int v_writtenMany])), (h_a, .inl (cJ, 499, .inr (.inl v_a))), (h_kept, .inl (cJ, 3992, .inr (.inl (vp_updL v_kept_5 (((499 : Int32) * v_keptMany_4) + l1_3).toNatClampNeg (v_a l1_3.toNatClampNeg)))))] rfl rfl hi_7 dX11_keeps_79 rfl ?_
          refine gq_iinc hC 1 (l1_3 + (1 : Int32)) [(1, .int (l1_3 + (1 : Int32))), (0, .ref h_t_)] dX11_keeps_80 rfl rfl (by decide) rfl ?_
          refine gq_goto hC 52 dX11_keeps_83 (by decide) ?_
          refine gq_sub [(0, .ref h_t_), (1, .int (l1_3 + (1 : Int32)))] [1, 0] rfl ?_
          exact ih (l1_3 + (1 : Int32)) (vp_updL v_kept_5 (((499 : Int32) * v_keptMany_4) + l1_3).toNatClampNeg (v_a l1_3.toNatClampNeg)) hF
    refine gq_sub [(0, .ref h_t_), (1, .int (0 : Int32))] [1, 0] rfl ?_
    obtain ⟨e_10, hw_, hF⟩ := ob1_e hF
    refine lp52 v_keptMany_1 e_10 ?_ wF (0 : Int32) v_kept_2 hw_
    refine gq_aload_n hC 0 dX11_keeps_86 rfl rfl ?_
    refine gq_dup hC dX11_keeps_87 rfl ?_
    refine gq_get hC (kf := 3) 0 hin_X11 rfl rfl (by decide) hw_82 rfl dX11_keeps_88 ?_
    refine gq_iconst hC (1 : Int32) dX11_keeps_91 (by decide) ?_
    refine gq_iadd hC dX11_keeps_92 ?_
    refine gq_put1 hC (kf := 3) 0 [(h_t_, .inr (11, [.ref h_a, .ref h_fresh, .ref h_kept, .int (v_keptMany_1 + (1 : Int32)), .int v_thrown, .ref h_buffer, .int v_buffered, .int v_size, .int v_at, .int v_behind, .int v_kind, .int v_wrong, .int v_wrongAt, .int v_errorAt, .long v_number, .ref h_worthFrom, .ref h_cutsFrom, .ref h_endFrom, .ref h_changes, .ref h_waysFrom, .int v_toCut, .int v_toLeave, .ref h_costAt, .ref h_places, .ref h_isCut, .ref h_written, .int v_writtenMany])), (h_a, .inl (cJ, 499, .inr (.inl v_a))), (h_kept, .inl (cJ, 3992, .inr (.inl e_10)))] tyX11 tyX11_ok nmX11 hin_X11 rfl rfl (by decide) hw_82 rfl rfl rfl (Nat.le_of_ble_eq_true rfl) dX11_keeps_93 rfl ?_
    cases hF
    rw [hQ]
    exact gq_vret hC dX11_keeps_96
  unfold F_X11_keeps at hF
  refine gq_aload_n hC 0 dX11_keeps_0 rfl rfl ?_
  refine gq_get hC (kf := 3) 0 hin_X11 rfl rfl (by decide) hw_82 rfl dX11_keeps_1 ?_
  refine gq_bipush hC (8 : Int32) dX11_keeps_4 (by decide) ?_
  refine gq_icmp_ne hC 50 dX11_keeps_6 (by decide) (fun hc_19 => ?_) (fun hc_19 => ?_)
  · have hF := (if_neg hc_19).symm.trans hF
    exact jb50 v_keptMany v_kept hF
  · have hF := (if_pos hc_19).symm.trans hF
    refine gq_iconst hC (0 : Int32) dX11_keeps_9 (by decide) ?_
    refine gq_istore_n hC [(1, .int (0 : Int32)), (0, .ref h_t_)] dX11_keeps_10 rfl (by decide) rfl ?_
    have lp11 : ∀ (v_keptMany_12 : Int32), ∀ (e_17 : (Nat → Int64)), Gx p l e (rmD 0) s m args below meth c D A 2 Q 0 0 40 [(0, .ref h_t_)] [] [(h_t_, .inr (11, [.ref h_a, .ref h_fresh, .ref h_kept, .int v_keptMany_12, .int v_thrown, .ref h_buffer, .int v_buffered, .int v_size, .int v_at, .int v_behind, .int v_kind, .int v_wrong, .int v_wrongAt, .int v_errorAt, .long v_number, .ref h_worthFrom, .ref h_cutsFrom, .ref h_endFrom, .ref h_changes, .ref h_waysFrom, .int v_toCut, .int v_toLeave, .ref h_costAt, .ref h_places, .ref h_isCut, .ref h_written, .int v_writtenMany])), (h_a, .inl (cJ, 499, .inr (.inl v_a))), (h_kept, .inl (cJ, 3992, .inr (.inl e_17)))] → ∀ (N : Nat) (l1_11 : Int32) (v_kept_13 : Nat → Int64), wh (fun k q => S_X11_keeps_11 v_keptMany_12 v_a k q.1 q.2) N (l1_11, v_kept_13) = some e_17 → Gx p l e (rmD 0) s m args below meth c D A 2 Q 0 0 11 [(0, .ref h_t_), (1, .int l1_11)] [] [(h_t_, .inr (11, [.ref h_a, .ref h_fresh, .ref h_kept, .int v_keptMany_12, .int v_thrown, .ref h_buffer, .int v_buffered, .int v_size, .int v_at, .int v_behind, .int v_kind, .int v_wrong, .int v_wrongAt, .int v_errorAt, .long v_number, .ref h_worthFrom, .ref h_cutsFrom, .ref h_endFrom, .ref h_changes, .ref h_waysFrom, .int v_toCut, .int v_toLeave, .ref h_costAt, .ref h_places, .ref h_isCut, .ref h_written, .int v_writtenMany])), (h_a, .inl (cJ, 499, .inr (.inl v_a))), (h_kept, .inl (cJ, 3992, .inr (.inl v_kept_13)))] := by
      intro v_keptMany_12 e_17 hx0 N
      induction N with
      | zero => intro l1_11 v_kept_13 hw; exact absurd hw (wh_0 _ _ _)
      | succ N ih =>
        intro l1_11 v_kept_13 hw
        have hF : S_X11_keeps_11 v_keptMany_12 v_a (wh (fun k q => S_X11_keeps_11 v_keptMany_12 v_a k q.1 q.2) N) l1_11 v_kept_13 = some e_17 := hw
        unfold S_X11_keeps_11 at hF
        refine gq_iload_n hC 1 dX11_keeps_11 rfl rfl ?_
        refine gq_sipush hC (3493 : Int32) dX11_keeps_12 (by decide) ?_
        refine gq_icmp_ge hC 40 dX11_keeps_15 (by decide) (fun hc_16 => ?_) (fun hc_16 => ?_)
        · have hF := (if_pos hc_16).symm.trans hF
          refine gq_sub [(0, .ref h_t_)] [0] rfl ?_
          cases hF
          exact hx0
        · have hF := (if_neg hc_16).symm.trans hF
          refine gq_aload_n hC 0 dX11_keeps_18 rfl rfl ?_
          refine gq_get hC (kf := 2) 0 hin_X11 rfl rfl (by decide) hw_16 rfl dX11_keeps_19 ?_
          refine gq_iload_n hC 1 dX11_keeps_22 rfl rfl ?_
          refine gq_aload_n hC 0 dX11_keeps_23 rfl rfl ?_
          refine gq_get hC (kf := 2) 0 hin_X11 rfl rfl (by decide) hw_16 rfl dX11_keeps_24 ?_
          refine gq_iload_n hC 1 dX11_keeps_27 rfl rfl ?_
          refine gq_sipush hC (499 : Int32) dX11_keeps_28 (by decide) ?_
          refine gq_iadd hC dX11_keeps_31 ?_
          obtain ⟨hi_14, hF⟩ := gi_e hF
          refine gq_lald hC 2 1 rfl rfl hi_14 dX11_keeps_32 ?_
          obtain ⟨hi_15, hF⟩ := gi_e hF
          refine gq_last hC 2 1 [(h_t_, .inr (11, [.ref h_a, .ref h_fresh, .ref h_kept, .int v_keptMany_12, .int v_thrown, .ref h_buffer, .int v_buffered, .int v_size, .int v_at, .int v_behind, .int v_kind, .int v_wrong, .int v_wrongAt, .int v_errorAt, .long v_number, .ref h_worthFrom, .ref h_cutsFrom, .ref h_endFrom, .ref h_changes, .ref h_waysFrom, .int v_toCut, .int v_toLeave, .ref h_costAt, .ref h_places, .ref h_isCut, .ref h_written, .int v_writtenMany])), (h_a, .inl (cJ, 499, .inr (.inl v_a))), (h_kept, .inl (cJ, 3992, .inr (.inl (vp_updL v_kept_13 l1_11.toNatClampNeg (v_kept_13 (l1_11 + (499 : Int32)).toNatClampNeg)))))] rfl rfl hi_15 dX11_keeps_33 rfl ?_
          refine gq_iinc hC 1 (l1_11 + (1 : Int32)) [(1, .int (l1_11 + (1 : Int32))), (0, .ref h_t_)] dX11_keeps_34 rfl rfl (by decide) rfl ?_
          refine gq_goto hC 11 dX11_keeps_37 (by decide) ?_
          refine gq_sub [(0, .ref h_t_), (1, .int (l1_11 + (1 : Int32)))] [1, 0] rfl ?_
          exact ih (l1_11 + (1 : Int32)) (vp_updL v_kept_13 l1_11.toNatClampNeg (v_kept_13 (l1_11 + (499 : Int32)).toNatClampNeg)) hF
    refine gq_sub [(0, .ref h_t_), (1, .int (0 : Int32))] [1, 0] rfl ?_
    obtain ⟨e_18, hw_, hF⟩ := ob1_e hF
    refine lp11 v_keptMany e_18 ?_ wF (0 : Int32) v_kept hw_
    refine gq_aload_n hC 0 dX11_keeps_40 rfl rfl ?_
    refine gq_dup hC dX11_keeps_41 rfl ?_
    refine gq_get hC (kf := 3) 0 hin_X11 rfl rfl (by decide) hw_82 rfl dX11_keeps_42 ?_
    refine gq_iconst hC (1 : Int32) dX11_keeps_45 (by decide) ?_
    refine gq_isub hC dX11_keeps_46 ?_
    refine gq_put1 hC (kf := 3) 0 [(h_t_, .inr (11, [.ref h_a, .ref h_fresh, .ref h_kept, .int (v_keptMany - (1 : Int32)), .int v_thrown, .ref h_buffer, .int v_buffered, .int v_size, .int v_at, .int v_behind, .int v_kind, .int v_wrong, .int v_wrongAt, .int v_errorAt, .long v_number, .ref h_worthFrom, .ref h_cutsFrom, .ref h_endFrom, .ref h_changes, .ref h_waysFrom, .int v_toCut, .int v_toLeave, .ref h_costAt, .ref h_places, .ref h_isCut, .ref h_written, .int v_writtenMany])), (h_a, .inl (cJ, 499, .inr (.inl v_a))), (h_kept, .inl (cJ, 3992, .inr (.inl e_18)))] tyX11 tyX11_ok nmX11 hin_X11 rfl rfl (by decide) hw_82 rfl rfl rfl (Nat.le_of_ble_eq_true rfl) dX11_keeps_47 rfl ?_
    exact jb50 (v_keptMany - (1 : Int32)) e_18 hF
theorem hy_X11_becomes : yX11_becomes.cls = RX11 ∧ yX11_becomes.cls ≠ "java/lang/invoke/MethodHandle" ∧ yX11_becomes.cls ≠ "java/lang/invoke/VarHandle" ∧ (parseMethodDescriptor yX11_becomes.desc).map (fun d => d.parameters.length) = some 0 := by decide +kernel
set_option maxRecDepth 20000 in
set_option maxHeartbeats 4000000 in
theorem k_X11_becomes (l : Launch) (D : va_G) (cI cJ cZ cO : ClassId) (z : Nat → Nat)   (h_t_ : Nat) (h_a : Nat) (h_fresh : Nat) (h_kept : Nat) (h_buffer : Nat) (h_worthFrom : Nat) (h_cutsFrom : Nat) (h_endFrom : Nat) (h_changes : Nat) (h_waysFrom : Nat) (h_costAt : Nat) (h_places : Nat) (h_isCut : Nat) (h_written : Nat)  (v_keptMany : Int32) (v_thrown : Int32) (v_buffered : Int32) (v_size : Int32) (v_at : Int32) (v_behind : Int32) (v_kind : Int32) (v_wrong : Int32) (v_wrongAt : Int32) (v_errorAt : Int32) (v_number : Int64) (v_toCut : Int32) (v_toLeave : Int32) (v_writtenMany : Int32) (v_a : Nat → Int64) (v_fresh : Nat → Int64) (w_a : Nat → Int64) (hF : F_X11_becomes v_a v_fresh = some w_a) : Mv l yX11_becomes wsX11_becomes (rmD 0) D (gq_ty cI cJ cZ cO) z [.ref h_t_] [(h_t_, .inr (11, [.ref h_a, .ref h_fresh, .ref h_kept, .int v_keptMany, .int v_thrown, .ref h_buffer, .int v_buffered, .int v_size, .int v_at, .int v_behind, .int v_kind, .int v_wrong, .int v_wrongAt, .int v_errorAt, .long v_number, .ref h_worthFrom, .ref h_cutsFrom, .ref h_endFrom, .ref h_changes, .ref h_waysFrom, .int v_toCut, .int v_toLeave, .ref h_costAt, .ref h_places, .ref h_isCut, .ref h_written, .int v_writtenMany])), (h_a, .inl (cJ, 499, .inr (.inl v_a))), (h_fresh, .inl (cJ, 499, .inr (.inl v_fresh)))] [(h_t_, .inr (11, [.ref h_a, .ref h_fresh, .ref h_kept, .int v_keptMany, .int v_thrown, .ref h_buffer, .int v_buffered, .int v_size, .int v_at, .int v_behind, .int v_kind, .int v_wrong, .int v_wrongAt, .int v_errorAt, .long v_number, .ref h_worthFrom, .ref h_cutsFrom, .ref h_endFrom, .ref h_changes, .ref h_waysFrom, .int v_toCut, .int v_toLeave, .ref h_costAt, .ref h_places, .ref h_isCut, .ref h_written, .int v_writtenMany])), (h_a, .inl (cJ, 499, .inr (.inl w_a))), (h_fresh, .inl (cJ, 499, .inr (.inl v_fresh)))] 0 0 := by
  refine Mv.of (cc := cX11_becomes) (maxL := 2) (by decide) rfl (Nat.le_of_ble_eq_true rfl) ⟨Nat.le_refl 0, Nat.le_refl 0⟩ ?_
  intro p e s m args below meth c A hC ha
  have hin_X11 : ∀ w ∈ wsX110, w ∈ wsX11_becomes := by decide +kernel
  have hw_9 : Cond.fieldLink RX11 9 (TX11 0).1 (TX11 0).2.1 (TX11 0).2.2.1 ∈ wsX11_becomes := by decide +kernel
  have hw_13 : Cond.fieldLink RX11 13 (TX11 1).1 (TX11 1).2.1 (TX11 1).2.2.1 ∈ wsX11_becomes := by decide +kernel
  obtain ⟨Q, hQ⟩ : ∃ Q, Q = gq_Qv below D A args s [(h_t_, .inr (11, [.ref h_a, .ref h_fresh, .ref h_kept, .int v_keptMany, .int v_thrown, .ref h_buffer, .int v_buffered, .int v_size, .int v_at, .int v_behind, .int v_kind, .int v_wrong, .int v_wrongAt, .int v_errorAt, .long v_number, .ref h_worthFrom, .ref h_cutsFrom, .ref h_endFrom, .ref h_changes, .ref h_waysFrom, .int v_toCut, .int v_toLeave, .ref h_costAt, .ref h_places, .ref h_isCut, .ref h_written, .int v_writtenMany])), (h_a, .inl (cJ, 499, .inr (.inl w_a))), (h_fresh, .inl (cJ, 499, .inr (.inl v_fresh)))] 0 0 := ⟨_, rfl⟩
  rw [← hQ]
  refine gq_loc [(0, .ref h_t_)] rfl ?_
  unfold F_X11_becomes at hF
  refine gq_iconst hC (0 : Int32) dX11_becomes_0 (by decide) ?_
  refine gq_istore_n hC [(1, .int (0 : Int32)), (0, .ref h_t_)] dX11_becomes_1 rfl (by decide) rfl ?_
  have lp2 : ∀ (e_6 : (Nat → Int64)), Gx p l e (rmD 0) s m args below meth c D A 2 Q 0 0 27 [] [] [(h_t_, .inr (11, [.ref h_a, .ref h_fresh, .ref h_kept, .int v_keptMany, .int v_thrown, .ref h_buffer, .int v_buffered, .int v_size, .int v_at, .int v_behind, .int v_kind, .int v_wrong, .int v_wrongAt, .int v_errorAt, .long v_number, .ref h_worthFrom, .ref h_cutsFrom, .ref h_endFrom, .ref h_changes, .ref h_waysFrom, .int v_toCut, .int v_toLeave, .ref h_costAt, .ref h_places, .ref h_isCut, .ref h_written, .int v_writtenMany])), (h_a, .inl (cJ, 499, .inr (.inl e_6))), (h_fresh, .inl (cJ, 499, .inr (.inl v_fresh)))] → ∀ (N : Nat) (l1_1 : Int32) (v_a_2 : Nat → Int64), wh (fun k q => S_X11_becomes_2 v_fresh k q.1 q.2) N (l1_1, v_a_2) = some e_6 → Gx p l e (rmD 0) s m args below meth c D A 2 Q 0 0 2 [(0, .ref h_t_), (1, .int l1_1)] [] [(h_t_, .inr (11, [.ref h_a, .ref h_fresh, .ref h_kept, .int v_keptMany, .int v_thrown, .ref h_buffer, .int v_buffered, .int v_size, .int v_at, .int v_behind, .int v_kind, .int v_wrong, .int v_wrongAt, .int v_errorAt, .long v_number, .ref h_worthFrom, .ref h_cutsFrom, .ref h_endFrom, .ref h_changes, .ref h_waysFrom, .int v_toCut, .int v_toLeave, .ref h_costAt, .ref h_places, .ref h_isCut, .ref h_written, .int v_writtenMany])), (h_a, .inl (cJ, 499, .inr (.inl v_a_2))), (h_fresh, .inl (cJ, 499, .inr (.inl v_fresh)))] := by
    intro e_6 hx0 N
    induction N with
    | zero => intro l1_1 v_a_2 hw; exact absurd hw (wh_0 _ _ _)
    | succ N ih =>
      intro l1_1 v_a_2 hw
      have hF : S_X11_becomes_2 v_fresh (wh (fun k q => S_X11_becomes_2 v_fresh k q.1 q.2) N) l1_1 v_a_2 = some e_6 := hw
      unfold S_X11_becomes_2 at hF
      refine gq_iload_n hC 1 dX11_becomes_2 rfl rfl ?_
      refine gq_sipush hC (499 : Int32) dX11_becomes_3 (by decide) ?_
      refine gq_icmp_ge hC 27 dX11_becomes_6 (by decide) (fun hc_5 => ?_) (fun hc_5 => ?_)
      · have hF := (if_pos hc_5).symm.trans hF
        refine gq_sub [] [] rfl ?_
        cases hF
        exact hx0
      · have hF := (if_neg hc_5).symm.trans hF
        refine gq_aload_n hC 0 dX11_becomes_9 rfl rfl ?_
        refine gq_get hC (kf := 0) 0 hin_X11 rfl rfl (by decide) hw_9 rfl dX11_becomes_10 ?_
        refine gq_iload_n hC 1 dX11_becomes_13 rfl rfl ?_
        refine gq_aload_n hC 0 dX11_becomes_14 rfl rfl ?_
        refine gq_get hC (kf := 1) 0 hin_X11 rfl rfl (by decide) hw_13 rfl dX11_becomes_15 ?_
        refine gq_iload_n hC 1 dX11_becomes_18 rfl rfl ?_
        obtain ⟨hi_3, hF⟩ := gi_e hF
        refine gq_lald hC 2 1 rfl rfl hi_3 dX11_becomes_19 ?_
        obtain ⟨hi_4, hF⟩ := gi_e hF
        refine gq_last hC 1 1 [(h_t_, .inr (11, [.ref h_a, .ref h_fresh, .ref h_kept, .int v_keptMany, .int v_thrown, .ref h_buffer, .int v_buffered, .int v_size, .int v_at, .int v_behind, .int v_kind, .int v_wrong, .int v_wrongAt, .int v_errorAt, .long v_number, .ref h_worthFrom, .ref h_cutsFrom, .ref h_endFrom, .ref h_changes, .ref h_waysFrom, .int v_toCut, .int v_toLeave, .ref h_costAt, .ref h_places, .ref h_isCut, .ref h_written, .int v_writtenMany])), (h_a, .inl (cJ, 499, .inr (.inl (vp_updL v_a_2 l1_1.toNatClampNeg (v_fresh l1_1.toNatClampNeg))))), (h_fresh, .inl (cJ, 499, .inr (.inl v_fresh)))] rfl rfl hi_4 dX11_becomes_20 rfl ?_
        refine gq_iinc hC 1 (l1_1 + (1 : Int32)) [(1, .int (l1_1 + (1 : Int32))), (0, .ref h_t_)] dX11_becomes_21 rfl rfl (by decide) rfl ?_
        refine gq_goto hC 2 dX11_becomes_24 (by decide) ?_
        refine gq_sub [(0, .ref h_t_), (1, .int (l1_1 + (1 : Int32)))] [1, 0] rfl ?_
        exact ih (l1_1 + (1 : Int32)) (vp_updL v_a_2 l1_1.toNatClampNeg (v_fresh l1_1.toNatClampNeg)) hF
  refine gq_sub [(0, .ref h_t_), (1, .int (0 : Int32))] [1, 0] rfl ?_
  obtain ⟨e_7, hw_, hF⟩ := ob1_e hF
  refine lp2  e_7 ?_ wF (0 : Int32) v_a hw_
  cases hF
  rw [hQ]
  exact gq_vret hC dX11_becomes_27
theorem hy_X11_load : yX11_load.cls = RX11 ∧ yX11_load.cls ≠ "java/lang/invoke/MethodHandle" ∧ yX11_load.cls ≠ "java/lang/invoke/VarHandle" ∧ (parseMethodDescriptor yX11_load.desc).map (fun d => d.parameters.length) = some 1 := by decide +kernel
set_option maxRecDepth 20000 in
set_option maxHeartbeats 4000000 in
theorem k_X11_load (l : Launch) (D : va_G) (cI cJ cZ cO : ClassId) (z : Nat → Nat)   (h_t_ : Nat) (h_a : Nat) (h_fresh : Nat) (h_kept : Nat) (h_buffer : Nat) (h_worthFrom : Nat) (h_cutsFrom : Nat) (h_endFrom : Nat) (h_changes : Nat) (h_waysFrom : Nat) (h_costAt : Nat) (h_places : Nat) (h_isCut : Nat) (h_written : Nat) (x1 : Int32) (v_keptMany : Int32) (v_thrown : Int32) (v_buffered : Int32) (v_size : Int32) (v_at : Int32) (v_behind : Int32) (v_kind : Int32) (v_wrong : Int32) (v_wrongAt : Int32) (v_errorAt : Int32) (v_number : Int64) (v_toCut : Int32) (v_toLeave : Int32) (v_writtenMany : Int32) (v_a : Nat → Int64) (v_fresh : Nat → Int64) (v_kept : Nat → Int64) (v_buffer : Nat → Int32) (r_ : Int32) (w_keptMany : Int32) (w_thrown : Int32) (w_buffered : Int32) (w_size : Int32) (w_at : Int32) (w_behind : Int32) (w_kind : Int32) (w_wrong : Int32) (w_wrongAt : Int32) (w_errorAt : Int32) (w_number : Int64) (w_a : Nat → Int64) (w_fresh : Nat → Int64) (w_kept : Nat → Int64) (hF : F_X11_load x1 v_keptMany v_thrown v_buffered v_size v_at v_behind v_kind v_wrong v_wrongAt v_errorAt v_number v_a v_fresh v_kept v_buffer = some (r_, w_keptMany, w_thrown, w_buffered, w_size, w_at, w_behind, w_kind, w_wrong, w_wrongAt, w_errorAt, w_number, w_a, w_fresh, w_kept)) : Mi l yX11_load wsX11_load (rmD 6) D (gq_ty cI cJ cZ cO) z [.ref h_t_, .int x1] [(h_t_, .inr (11, [.ref h_a, .ref h_fresh, .ref h_kept, .int v_keptMany, .int v_thrown, .ref h_buffer, .int v_buffered, .int v_size, .int v_at, .int v_behind, .int v_kind, .int v_wrong, .int v_wrongAt, .int v_errorAt, .long v_number, .ref h_worthFrom, .ref h_cutsFrom, .ref h_endFrom, .ref h_changes, .ref h_waysFrom, .int v_toCut, .int v_toLeave, .ref h_costAt, .ref h_places, .ref h_isCut, .ref h_written, .int v_writtenMany])), (h_a, .inl (cJ, 499, .inr (.inl v_a))), (h_fresh, .inl (cJ, 499, .inr (.inl v_fresh))), (h_kept, .inl (cJ, 3992, .inr (.inl v_kept))), (h_buffer, .inl (cI, 900, .inl v_buffer))] r_ [(h_t_, .inr (11, [.ref h_a, .ref h_fresh, .ref h_kept, .int w_keptMany, .int w_thrown, .ref h_buffer, .int w_buffered, .int w_size, .int w_at, .int w_behind, .int w_kind, .int w_wrong, .int w_wrongAt, .int w_errorAt, .long w_number, .ref h_worthFrom, .ref h_cutsFrom, .ref h_endFrom, .ref h_changes, .ref h_waysFrom, .int v_toCut, .int v_toLeave, .ref h_costAt, .ref h_places, .ref h_isCut, .ref h_written, .int v_writtenMany])), (h_a, .inl (cJ, 499, .inr (.inl w_a))), (h_fresh, .inl (cJ, 499, .inr (.inl w_fresh))), (h_kept, .inl (cJ, 3992, .inr (.inl w_kept))), (h_buffer, .inl (cI, 900, .inl v_buffer))] 0 0 := by
  refine Mi.of (cc := cX11_load) (maxL := 2) (by decide) rfl (Nat.le_of_ble_eq_true rfl) ⟨Nat.le_refl 0, Nat.le_refl 0⟩ ?_
  intro p e s m args below meth c A hC ha
  have hin_X11 : ∀ w ∈ wsX110, w ∈ wsX11_load := by decide +kernel
  have hw_9 : Cond.fieldLink RX11 9 (TX11 0).1 (TX11 0).2.1 (TX11 0).2.2.1 ∈ wsX11_load := by decide +kernel
  have hw_23 : Cond.fieldLink RX11 23 (TX11 13).1 (TX11 13).2.1 (TX11 13).2.2.1 ∈ wsX11_load := by decide +kernel
  have hw_79 : Cond.fieldLink RX11 79 (TX11 4).1 (TX11 4).2.1 (TX11 4).2.2.1 ∈ wsX11_load := by decide +kernel
  have hw_85 : Cond.fieldLink RX11 85 (TX11 6).1 (TX11 6).2.1 (TX11 6).2.2.1 ∈ wsX11_load := by decide +kernel
  have hw_88 : Cond.fieldLink RX11 88 (TX11 7).1 (TX11 7).2.1 (TX11 7).2.2.1 ∈ wsX11_load := by decide +kernel
  have hw_103 : Cond.fieldLink RX11 103 (TX11 9).1 (TX11 9).2.1 (TX11 9).2.2.1 ∈ wsX11_load := by decide +kernel
  have hw_113 : Cond.fieldLink RX11 113 (TX11 10).1 (TX11 10).2.1 (TX11 10).2.2.1 ∈ wsX11_load := by decide +kernel
  have hw_131 : Cond.fieldLink RX11 131 (TX11 11).1 (TX11 11).2.1 (TX11 11).2.2.1 ∈ wsX11_load := by decide +kernel
  have hw_144 : Cond.fieldLink RX11 144 (TX11 12).1 (TX11 12).2.1 (TX11 12).2.2.1 ∈ wsX11_load := by decide +kernel
  obtain ⟨Q, hQ⟩ : ∃ Q, Q = gq_Qi below D A args s r_ [(h_t_, .inr (11, [.ref h_a, .ref h_fresh, .ref h_kept, .int w_keptMany, .int w_thrown, .ref h_buffer, .int w_buffered, .int w_size, .int w_at, .int w_behind, .int w_kind, .int w_wrong, .int w_wrongAt, .int w_errorAt, .long w_number, .ref h_worthFrom, .ref h_cutsFrom, .ref h_endFrom, .ref h_changes, .ref h_waysFrom, .int v_toCut, .int v_toLeave, .ref h_costAt, .ref h_places, .ref h_isCut, .ref h_written, .int v_writtenMany])), (h_a, .inl (cJ, 499, .inr (.inl w_a))), (h_fresh, .inl (cJ, 499, .inr (.inl w_fresh))), (h_kept, .inl (cJ, 3992, .inr (.inl w_kept))), (h_buffer, .inl (cI, 900, .inl v_buffer))] 0 0 := ⟨_, rfl⟩
  rw [← hQ]
  refine gq_loc [(0, .ref h_t_), (1, .int x1)] rfl ?_
  have jb148 : ∀ (st_1 : Int32) (v_keptMany_2 : Int32) (v_thrown_3 : Int32) (v_buffered_4 : Int32) (v_size_5 : Int32) (v_at_6 : Int32) (v_behind_7 : Int32) (v_kind_8 : Int32) (v_wrong_9 : Int32) (v_wrongAt_10 : Int32) (v_errorAt_11 : Int32) (v_number_12 : Int64) (v_a_13 : Nat → Int64) (v_fresh_14 : Nat → Int64) (v_kept_15 : Nat → Int64), F_X11_load_b148 st_1 v_keptMany_2 v_thrown_3 v_buffered_4 v_size_5 v_at_6 v_behind_7 v_kind_8 v_wrong_9 v_wrongAt_10 v_errorAt_11 v_number_12 v_a_13 v_fresh_14 v_kept_15 = some (r_, w_keptMany, w_thrown, w_buffered, w_size, w_at, w_behind, w_kind, w_wrong, w_wrongAt, w_errorAt, w_number, w_a, w_fresh, w_kept) → Gx p l e (rmD 6) s m args below meth c D A 2 Q 0 0 148 [(0, .ref h_t_)] [.int st_1, .ref h_t_] [(h_t_, .inr (11, [.ref h_a, .ref h_fresh, .ref h_kept, .int v_keptMany_2, .int v_thrown_3, .ref h_buffer, .int v_buffered_4, .int v_size_5, .int v_at_6, .int v_behind_7, .int v_kind_8, .int v_wrong_9, .int v_wrongAt_10, .int v_errorAt_11, .long v_number_12, .ref h_worthFrom, .ref h_cutsFrom, .ref h_endFrom, .ref h_changes, .ref h_waysFrom, .int v_toCut, .int v_toLeave, .ref h_costAt, .ref h_places, .ref h_isCut, .ref h_written, .int v_writtenMany])), (h_a, .inl (cJ, 499, .inr (.inl v_a_13))), (h_fresh, .inl (cJ, 499, .inr (.inl v_fresh_14))), (h_kept, .inl (cJ, 3992, .inr (.inl v_kept_15))), (h_buffer, .inl (cI, 900, .inl v_buffer))] := by
    intro st_1 v_keptMany_2 v_thrown_3 v_buffered_4 v_size_5 v_at_6 v_behind_7 v_kind_8 v_wrong_9 v_wrongAt_10 v_errorAt_11 v_number_12 v_a_13 v_fresh_14 v_kept_15 hF
    unfold F_X11_load_b148 at hF
    refine gq_put1 hC (kf := 13) 0 [(h_t_, .inr (11, [.ref h_a, .ref h_fresh, .ref h_kept, .int v_keptMany_2, .int v_thrown_3, .ref h_buffer, .int v_buffered_4, .int v_size_5, .int v_at_6, .int v_behind_7, .int v_kind_8, .int v_wrong_9, .int v_wrongAt_10, .int st_1, .long v_number_12, .ref h_worthFrom, .ref h_cutsFrom, .ref h_endFrom, .ref h_changes, .ref h_waysFrom, .int v_toCut, .int v_toLeave, .ref h_costAt, .ref h_places, .ref h_isCut, .ref h_written, .int v_writtenMany])), (h_a, .inl (cJ, 499, .inr (.inl v_a_13))), (h_fresh, .inl (cJ, 499, .inr (.inl v_fresh_14))), (h_kept, .inl (cJ, 3992, .inr (.inl v_kept_15))), (h_buffer, .inl (cI, 900, .inl v_buffer))] tyX11 tyX11_ok nmX11 hin_X11 rfl rfl (by decide) hw_23 rfl rfl rfl (Nat.le_of_ble_eq_true rfl) dX11_load_148 rfl ?_
    refine gq_aload_n hC 0 dX11_load_151 rfl rfl ?_
    refine gq_get hC (kf := 11) 0 hin_X11 rfl rfl (by decide) hw_131 rfl dX11_load_152 ?_
    refine gq_if_eq hC 163 dX11_load_155 (by decide) (fun hc_20 => ?_) (fun hc_20 => ?_)
    · have hF := (if_pos hc_20).symm.trans hF
      refine gq_aload_n hC 0 dX11_load_163 rfl rfl ?_
      obtain ⟨v_keptMany_16, v_kept_17, hc_, hF⟩ := ob2_e hF
      refine gq_callVv hC [0, 1, 3] [(h_t_, .inr (11, [.ref h_a, .ref h_fresh, .ref h_kept, .int v_keptMany_16, .int v_thrown_3, .ref h_buffer, .int v_buffered_4, .int v_size_5, .int v_at_6, .int v_behind_7, .int v_kind_8, .int v_wrong_9, .int v_wrongAt_10, .int st_1, .long v_number_12, .ref h_worthFrom, .ref h_cutsFrom, .ref h_endFrom, .ref h_changes, .ref h_waysFrom, .int v_toCut, .int v_toLeave, .ref h_costAt, .ref h_places, .ref h_isCut, .ref h_written, .int v_writtenMany])), (h_a, .inl (cJ, 499, .inr (.inl v_a_13))), (h_fresh, .inl (cJ, 499, .inr (.inl v_fresh_14))), (h_kept, .inl (cJ, 3992, .inr (.inl v_kept_17))), (h_buffer, .inl (cI, 900, .inl v_buffer))] [] [] (k_X11_keeps l D cI cJ cZ cO z h_t_ h_a h_kept h_fresh h_buffer h_worthFrom h_cutsFrom h_endFrom h_changes h_waysFrom h_costAt h_places h_isCut h_written v_keptMany_2 v_thrown_3 v_buffered_4 v_size_5 v_at_6 v_behind_7 v_kind_8 v_wrong_9 v_wrongAt_10 st_1 v_number_12 v_toCut v_toLeave v_writtenMany v_a_13 v_kept_15 v_keptMany_16 v_kept_17 hc_) gX11_load_X11_keeps rfl ⟨rfl, rfl⟩ hy_X11_keeps ⟨Nat.le_of_ble_eq_true rfl, Nat.le_of_ble_eq_true rfl⟩ rfl rfl rfl (q0 := 0) rfl rfl rfl (Nat.le_of_ble_eq_true rfl) rfl dX11_load_164 rfl rfl ?_
      refine gq_aload_n hC 0 dX11_load_167 rfl rfl ?_
      obtain ⟨v_a_18, hc_, hF⟩ := ob1_e hF
      refine gq_callVv hC [0, 1, 2] [(h_t_, .inr (11, [.ref h_a, .ref h_fresh, .ref h_kept, .int v_keptMany_16, .int v_thrown_3, .ref h_buffer, .int v_buffered_4, .int v_size_5, .int v_at_6, .int v_behind_7, .int v_kind_8, .int v_wrong_9, .int v_wrongAt_10, .int st_1, .long v_number_12, .ref h_worthFrom, .ref h_cutsFrom, .ref h_endFrom, .ref h_changes, .ref h_waysFrom, .int v_toCut, .int v_toLeave, .ref h_costAt, .ref h_places, .ref h_isCut, .ref h_written, .int v_writtenMany])), (h_a, .inl (cJ, 499, .inr (.inl v_a_18))), (h_fresh, .inl (cJ, 499, .inr (.inl v_fresh_14))), (h_kept, .inl (cJ, 3992, .inr (.inl v_kept_17))), (h_buffer, .inl (cI, 900, .inl v_buffer))] [] [] (k_X11_becomes l D cI cJ cZ cO z h_t_ h_a h_fresh h_kept h_buffer h_worthFrom h_cutsFrom h_endFrom h_changes h_waysFrom h_costAt h_places h_isCut h_written v_keptMany_16 v_thrown_3 v_buffered_4 v_size_5 v_at_6 v_behind_7 v_kind_8 v_wrong_9 v_wrongAt_10 st_1 v_number_12 v_toCut v_toLeave v_writtenMany v_a_13 v_fresh_14 v_a_18 hc_) gX11_load_X11_becomes rfl ⟨rfl, rfl⟩ hy_X11_becomes ⟨Nat.le_of_ble_eq_true rfl, Nat.le_of_ble_eq_true rfl⟩ rfl rfl rfl (q0 := 0) rfl rfl rfl (Nat.le_of_ble_eq_true rfl) rfl dX11_load_168 rfl rfl ?_
      refine gq_aload_n hC 0 dX11_load_171 rfl rfl ?_
      refine gq_get hC (kf := 0) 0 hin_X11 rfl rfl (by decide) hw_9 rfl dX11_load_172 ?_
      refine gq_bipush hC (6 : Int32) dX11_load_175 (by decide) ?_
      obtain ⟨hi_19, hF⟩ := gi_e hF
      refine gq_lald hC 1 1 rfl rfl hi_19 dX11_load_177 ?_
      refine gq_l2i hC dX11_load_178 ?_
      cases hF
      rw [hQ]
      exact gq_iret hC rfl dX11_load_179
    · have hF := (if_neg hc_20).symm.trans hF
      refine gq_aload_n hC 0 dX11_load_158 rfl rfl ?_
      refine gq_get hC (kf := 11) 0 hin_X11 rfl rfl (by decide) hw_131 rfl dX11_load_159 ?_
      cases hF
      rw [hQ]
      exact gq_iret hC rfl dX11_load_162
  have jb132 : ∀ (v_keptMany_21 : Int32) (v_thrown_22 : Int32) (v_buffered_23 : Int32) (v_size_24 : Int32) (v_at_25 : Int32) (v_behind_26 : Int32) (v_kind_27 : Int32) (v_wrong_28 : Int32) (v_wrongAt_29 : Int32) (v_errorAt_30 : Int32) (v_number_31 : Int64) (v_a_32 : Nat → Int64) (v_fresh_33 : Nat → Int64) (v_kept_34 : Nat → Int64), F_X11_load_b132 v_keptMany_21 v_thrown_22 v_buffered_23 v_size_24 v_at_25 v_behind_26 v_kind_27 v_wrong_28 v_wrongAt_29 v_errorAt_30 v_number_31 v_a_32 v_fresh_33 v_kept_34 = some (r_, w_keptMany, w_thrown, w_buffered, w_size, w_at, w_behind, w_kind, w_wrong, w_wrongAt, w_errorAt, w_number, w_a, w_fresh, w_kept) → Gx p l e (rmD 6) s m args below meth c D A 2 Q 0 0 132 [(0, .ref h_t_)] [] [(h_t_, .inr (11, [.ref h_a, .ref h_fresh, .ref h_kept, .int v_keptMany_21, .int v_thrown_22, .ref h_buffer, .int v_buffered_23, .int v_size_24, .int v_at_25, .int v_behind_26, .int v_kind_27, .int v_wrong_28, .int v_wrongAt_29, .int v_errorAt_30, .long v_number_31, .ref h_worthFrom, .ref h_cutsFrom, .ref h_endFrom, .ref h_changes, .ref h_waysFrom, .int v_toCut, .int v_toLeave, .ref h_costAt, .ref h_places, .ref h_isCut, .ref h_written, .int v_writtenMany])), (h_a, .inl (cJ, 499, .inr (.inl v_a_32))), (h_fresh, .inl (cJ, 499, .inr (.inl v_fresh_33))), (h_kept, .inl (cJ, 3992, .inr (.inl v_kept_34))), (h_buffer, .inl (cI, 900, .inl v_buffer))] := by
    intro v_keptMany_21 v_thrown_22 v_buffered_23 v_size_24 v_at_25 v_behind_26 v_kind_27 v_wrong_28 v_wrongAt_29 v_errorAt_30 v_number_31 v_a_32 v_fresh_33 v_kept_34 hF
    unfold F_X11_load_b132 at hF
    refine gq_aload_n hC 0 dX11_load_132 rfl rfl ?_
    refine gq_aload_n hC 0 dX11_load_133 rfl rfl ?_
    refine gq_get hC (kf := 11) 0 hin_X11 rfl rfl (by decide) hw_131 rfl dX11_load_134 ?_
    refine gq_if_ne hC 144 dX11_load_137 (by decide) (fun hc_35 => ?_) (fun hc_35 => ?_)
    · have hF := (if_neg hc_35).symm.trans hF
      refine gq_aload_n hC 0 dX11_load_144 rfl rfl ?_
      refine gq_get hC (kf := 12) 0 hin_X11 rfl rfl (by decide) hw_144 rfl dX11_load_145 ?_
      exact jb148 v_wrongAt_29 v_keptMany_21 v_thrown_22 v_buffered_23 v_size_24 v_at_25 v_behind_26 v_kind_27 v_wrong_28 v_wrongAt_29 v_errorAt_30 v_number_31 v_a_32 v_fresh_33 v_kept_34 hF
    · have hF := (if_pos hc_35).symm.trans hF
      refine gq_iconst hC (-1 : Int32) dX11_load_140 (by decide) ?_
      refine gq_goto hC 148 dX11_load_141 (by decide) ?_
      exact jb148 (-1 : Int32) v_keptMany_21 v_thrown_22 v_buffered_23 v_size_24 v_at_25 v_behind_26 v_kind_27 v_wrong_28 v_wrongAt_29 v_errorAt_30 v_number_31 v_a_32 v_fresh_33 v_kept_34 hF
  have jb20 : ∀ (st_36 : Int32) (v_keptMany_37 : Int32) (v_thrown_38 : Int32) (v_buffered_39 : Int32) (v_size_40 : Int32) (v_at_41 : Int32) (v_behind_42 : Int32) (v_kind_43 : Int32) (v_wrong_44 : Int32) (v_wrongAt_45 : Int32) (v_errorAt_46 : Int32) (v_number_47 : Int64) (v_a_48 : Nat → Int64) (v_fresh_49 : Nat → Int64) (v_kept_50 : Nat → Int64), F_X11_load_b20 x1 st_36 v_keptMany_37 v_thrown_38 v_buffered_39 v_size_40 v_at_41 v_behind_42 v_kind_43 v_wrong_44 v_wrongAt_45 v_errorAt_46 v_number_47 v_a_48 v_fresh_49 v_kept_50 v_buffer = some (r_, w_keptMany, w_thrown, w_buffered, w_size, w_at, w_behind, w_kind, w_wrong, w_wrongAt, w_errorAt, w_number, w_a, w_fresh, w_kept) → Gx p l e (rmD 6) s m args below meth c D A 2 Q 0 0 20 [(0, .ref h_t_), (1, .int x1)] [.int st_36, .ref h_t_] [(h_t_, .inr (11, [.ref h_a, .ref h_fresh, .ref h_kept, .int v_keptMany_37, .int v_thrown_38, .ref h_buffer, .int v_buffered_39, .int v_size_40, .int v_at_41, .int v_behind_42, .int v_kind_43, .int v_wrong_44, .int v_wrongAt_45, .int v_errorAt_46, .long v_number_47, .ref h_worthFrom, .ref h_cutsFrom, .ref h_endFrom, .ref h_changes, .ref h_waysFrom, .int v_toCut, .int v_toLeave, .ref h_costAt, .ref h_places, .ref h_isCut, .ref h_written, .int v_writtenMany])), (h_a, .inl (cJ, 499, .inr (.inl v_a_48))), (h_fresh, .inl (cJ, 499, .inr (.inl v_fresh_49))), (h_kept, .inl (cJ, 3992, .inr (.inl v_kept_50))), (h_buffer, .inl (cI, 900, .inl v_buffer))] := by
    intro st_36 v_keptMany_37 v_thrown_38 v_buffered_39 v_size_40 v_at_41 v_behind_42 v_kind_43 v_wrong_44 v_wrongAt_45 v_errorAt_46 v_number_47 v_a_48 v_fresh_49 v_kept_50 hF
    unfold F_X11_load_b20 at hF
    refine gq_put1 hC (kf := 4) 0 [(h_t_, .inr (11, [.ref h_a, .ref h_fresh, .ref h_kept, .int v_keptMany_37, .int st_36, .ref h_buffer, .int v_buffered_39, .int v_size_40, .int v_at_41, .int v_behind_42, .int v_kind_43, .int v_wrong_44, .int v_wrongAt_45, .int v_errorAt_46, .long v_number_47, .ref h_worthFrom, .ref h_cutsFrom, .ref h_endFrom, .ref h_changes, .ref h_waysFrom, .int v_toCut, .int v_toLeave, .ref h_costAt, .ref h_places, .ref h_isCut, .ref h_written, .int v_writtenMany])), (h_a, .inl (cJ, 499, .inr (.inl v_a_48))), (h_fresh, .inl (cJ, 499, .inr (.inl v_fresh_49))), (h_kept, .inl (cJ, 3992, .inr (.inl v_kept_50))), (h_buffer, .inl (cI, 900, .inl v_buffer))] tyX11 tyX11_ok nmX11 hin_X11 rfl rfl (by decide) hw_79 rfl rfl rfl (Nat.le_of_ble_eq_true rfl) dX11_load_20 rfl ?_
    refine gq_aload_n hC 0 dX11_load_23 rfl rfl ?_
    refine gq_get hC (kf := 4) 0 hin_X11 rfl rfl (by decide) hw_79 rfl dX11_load_24 ?_
    refine gq_if_le hC 32 dX11_load_27 (by decide) (fun hc_115 => ?_) (fun hc_115 => ?_)
    · have hF := (if_pos hc_115).symm.trans hF
      refine gq_aload_n hC 0 dX11_load_32 rfl rfl ?_
      refine gq_iload_n hC 1 dX11_load_33 rfl rfl ?_
      refine gq_put1 hC (kf := 7) 0 [(h_t_, .inr (11, [.ref h_a, .ref h_fresh, .ref h_kept, .int v_keptMany_37, .int st_36, .ref h_buffer, .int v_buffered_39, .int x1, .int v_at_41, .int v_behind_42, .int v_kind_43, .int v_wrong_44, .int v_wrongAt_45, .int v_errorAt_46, .long v_number_47, .ref h_worthFrom, .ref h_cutsFrom, .ref h_endFrom, .ref h_changes, .ref h_waysFrom, .int v_toCut, .int v_toLeave, .ref h_costAt, .ref h_places, .ref h_isCut, .ref h_written, .int v_writtenMany])), (h_a, .inl (cJ, 499, .inr (.inl v_a_48))), (h_fresh, .inl (cJ, 499, .inr (.inl v_fresh_49))), (h_kept, .inl (cJ, 3992, .inr (.inl v_kept_50))), (h_buffer, .inl (cI, 900, .inl v_buffer))] tyX11 tyX11_ok nmX11 hin_X11 rfl rfl (by decide) hw_88 rfl rfl rfl (Nat.le_of_ble_eq_true rfl) dX11_load_34 rfl ?_
      refine gq_aload_n hC 0 dX11_load_37 rfl rfl ?_
      refine gq_iconst hC (0 : Int32) dX11_load_38 (by decide) ?_
      refine gq_put1 hC (kf := 6) 0 [(h_t_, .inr (11, [.ref h_a, .ref h_fresh, .ref h_kept, .int v_keptMany_37, .int st_36, .ref h_buffer, .int (0 : Int32), .int x1, .int v_at_41, .int v_behind_42, .int v_kind_43, .int v_wrong_44, .int v_wrongAt_45, .int v_errorAt_46, .long v_number_47, .ref h_worthFrom, .ref h_cutsFrom, .ref h_endFrom, .ref h_changes, .ref h_waysFrom, .int v_toCut, .int v_toLeave, .ref h_costAt, .ref h_places, .ref h_isCut, .ref h_written, .int v_writtenMany])), (h_a, .inl (cJ, 499, .inr (.inl v_a_48))), (h_fresh, .inl (cJ, 499, .inr (.inl v_fresh_49))), (h_kept, .inl (cJ, 3992, .inr (.inl v_kept_50))), (h_buffer, .inl (cI, 900, .inl v_buffer))] tyX11 tyX11_ok nmX11 hin_X11 rfl rfl (by decide) hw_85 rfl rfl rfl (Nat.le_of_ble_eq_true rfl) dX11_load_39 rfl ?_
      refine gq_aload_n hC 0 dX11_load_42 rfl rfl ?_
      refine gq_iconst hC (0 : Int32) dX11_load_43 (by decide) ?_
      refine gq_put1 hC (kf := 9) 0 [(h_t_, .inr (11, [.ref h_a, .ref h_fresh, .ref h_kept, .int v_keptMany_37, .int st_36, .ref h_buffer, .int (0 : Int32), .int x1, .int v_at_41, .int (0 : Int32), .int v_kind_43, .int v_wrong_44, .int v_wrongAt_45, .int v_errorAt_46, .long v_number_47, .ref h_worthFrom, .ref h_cutsFrom, .ref h_endFrom, .ref h_changes, .ref h_waysFrom, .int v_toCut, .int v_toLeave, .ref h_costAt, .ref h_places, .ref h_isCut, .ref h_written, .int v_writtenMany])), (h_a, .inl (cJ, 499, .inr (.inl v_a_48))), (h_fresh, .inl (cJ, 499, .inr (.inl v_fresh_49))), (h_kept, .inl (cJ, 3992, .inr (.inl v_kept_50))), (h_buffer, .inl (cI, 900, .inl v_buffer))] tyX11 tyX11_ok nmX11 hin_X11 rfl rfl (by decide) hw_103 rfl rfl rfl (Nat.le_of_ble_eq_true rfl) dX11_load_44 rfl ?_
      refine gq_aload_n hC 0 dX11_load_47 rfl rfl ?_
      refine gq_iconst hC (0 : Int32) dX11_load_48 (by decide) ?_
      refine gq_put1 hC (kf := 11) 0 [(h_t_, .inr (11, [.ref h_a, .ref h_fresh, .ref h_kept, .int v_keptMany_37, .int st_36, .ref h_buffer, .int (0 : Int32), .int x1, .int v_at_41, .int (0 : Int32), .int v_kind_43, .int (0 : Int32), .int v_wrongAt_45, .int v_errorAt_46, .long v_number_47, .ref h_worthFrom, .ref h_cutsFrom, .ref h_endFrom, .ref h_changes, .ref h_waysFrom, .int v_toCut, .int v_toLeave, .ref h_costAt, .ref h_places, .ref h_isCut, .ref h_written, .int v_writtenMany])), (h_a, .inl (cJ, 499, .inr (.inl v_a_48))), (h_fresh, .inl (cJ, 499, .inr (.inl v_fresh_49))), (h_kept, .inl (cJ, 3992, .inr (.inl v_kept_50))), (h_buffer, .inl (cI, 900, .inl v_buffer))] tyX11 tyX11_ok nmX11 hin_X11 rfl rfl (by decide) hw_131 rfl rfl rfl (Nat.le_of_ble_eq_true rfl) dX11_load_49 rfl ?_
      refine gq_aload_n hC 0 dX11_load_52 rfl rfl ?_
      obtain ⟨v_fresh_51, hc_, hF⟩ := ob1_e hF
      refine gq_callVv hC [0, 2] [(h_t_, .inr (11, [.ref h_a, .ref h_fresh, .ref h_kept, .int v_keptMany_37, .int st_36, .ref h_buffer, .int (0 : Int32), .int x1, .int v_at_41, .int (0 : Int32), .int v_kind_43, .int (0 : Int32), .int v_wrongAt_45, .int v_errorAt_46, .long v_number_47, .ref h_worthFrom, .ref h_cutsFrom, .ref h_endFrom, .ref h_changes, .ref h_waysFrom, .int v_toCut, .int v_toLeave, .ref h_costAt, .ref h_places, .ref h_isCut, .ref h_written, .int v_writtenMany])), (h_a, .inl (cJ, 499, .inr (.inl v_a_48))), (h_fresh, .inl (cJ, 499, .inr (.inl v_fresh_51))), (h_kept, .inl (cJ, 3992, .inr (.inl v_kept_50))), (h_buffer, .inl (cI, 900, .inl v_buffer))] [] [] (k_X11_begins l D cI cJ cZ cO z h_t_ h_fresh h_a h_kept h_buffer h_worthFrom h_cutsFrom h_endFrom h_changes h_waysFrom h_costAt h_places h_isCut h_written v_keptMany_37 st_36 (0 : Int32) x1 v_at_41 (0 : Int32) v_kind_43 (0 : Int32) v_wrongAt_45 v_errorAt_46 v_number_47 v_toCut v_toLeave v_writtenMany v_fresh_49 v_fresh_51 hc_) gX11_load_X11_begins rfl ⟨rfl, rfl⟩ hy_X11_begins ⟨Nat.le_of_ble_eq_true rfl, Nat.le_of_ble_eq_true rfl⟩ rfl rfl rfl (q0 := 0) rfl rfl rfl (Nat.le_of_ble_eq_true rfl) rfl dX11_load_53 rfl rfl ?_
      refine gq_aload_n hC 0 dX11_load_56 rfl rfl ?_
      obtain ⟨v_at_52, v_behind_53, v_kind_54, v_number_55, hc_, hF⟩ := ob4_e hF
      refine gq_callVv hC [0, 4] [(h_t_, .inr (11, [.ref h_a, .ref h_fresh, .ref h_kept, .int v_keptMany_37, .int st_36, .ref h_buffer, .int (0 : Int32), .int x1, .int v_at_52, .int v_behind_53, .int v_kind_54, .int (0 : Int32), .int v_wrongAt_45, .int v_errorAt_46, .long v_number_55, .ref h_worthFrom, .ref h_cutsFrom, .ref h_endFrom, .ref h_changes, .ref h_waysFrom, .int v_toCut, .int v_toLeave, .ref h_costAt, .ref h_places, .ref h_isCut, .ref h_written, .int v_writtenMany])), (h_a, .inl (cJ, 499, .inr (.inl v_a_48))), (h_fresh, .inl (cJ, 499, .inr (.inl v_fresh_51))), (h_kept, .inl (cJ, 3992, .inr (.inl v_kept_50))), (h_buffer, .inl (cI, 900, .inl v_buffer))] [] [] (k_X11_next l D cI cJ cZ cO z h_t_ h_buffer h_a h_fresh h_kept h_worthFrom h_cutsFrom h_endFrom h_changes h_waysFrom h_costAt h_places h_isCut h_written v_keptMany_37 st_36 (0 : Int32) x1 v_at_41 (0 : Int32) v_kind_43 (0 : Int32) v_wrongAt_45 v_errorAt_46 v_number_47 v_toCut v_toLeave v_writtenMany v_buffer v_at_52 v_behind_53 v_kind_54 v_number_55 hc_) gX11_load_X11_next rfl ⟨rfl, rfl⟩ hy_X11_next ⟨Nat.le_of_ble_eq_true rfl, Nat.le_of_ble_eq_true rfl⟩ rfl rfl rfl (q0 := 0) rfl rfl rfl (Nat.le_of_ble_eq_true rfl) rfl dX11_load_57 rfl rfl ?_
      have lp60 : ∀ (v_keptMany_56 : Int32) (v_thrown_57 : Int32) (v_buffered_58 : Int32) (v_size_59 : Int32) (v_errorAt_65 : Int32) (v_a_67 : Nat → Int64) (v_kept_69 : Nat → Int64), ∀ (e_101 : (Int32)) (e_102 : (Int32)) (e_103 : (Int32)) (e_104 : (Int32)) (e_105 : (Int32)) (e_106 : (Int64)) (e_107 : (Nat → Int64)), Gx p l e (rmD 6) s m args below meth c D A 2 Q 0 0 132 [(0, .ref h_t_)] [] [(h_t_, .inr (11, [.ref h_a, .ref h_fresh, .ref h_kept, .int v_keptMany_56, .int v_thrown_57, .ref h_buffer, .int v_buffered_58, .int v_size_59, .int e_101, .int e_102, .int e_103, .int e_104, .int e_105, .int v_errorAt_65, .long e_106, .ref h_worthFrom, .ref h_cutsFrom, .ref h_endFrom, .ref h_changes, .ref h_waysFrom, .int v_toCut, .int v_toLeave, .ref h_costAt, .ref h_places, .ref h_isCut, .ref h_written, .int v_writtenMany])), (h_a, .inl (cJ, 499, .inr (.inl v_a_67))), (h_fresh, .inl (cJ, 499, .inr (.inl e_107))), (h_kept, .inl (cJ, 3992, .inr (.inl v_kept_69))), (h_buffer, .inl (cI, 900, .inl v_buffer))] → ∀ (N : Nat) (v_at_60 : Int32) (v_behind_61 : Int32) (v_kind_62 : Int32) (v_wrong_63 : Int32) (v_wrongAt_64 : Int32) (v_number_66 : Int64) (v_fresh_68 : Nat → Int64), wh (fun k q => S_X11_load_60 v_keptMany_56 v_thrown_57 v_buffered_58 v_size_59 v_errorAt_65 v_a_67 v_kept_69 v_buffer k q.1 q.2.1 q.2.2.1 q.2.2.2.1 q.2.2.2.2.1 q.2.2.2.2.2.1 q.2.2.2.2.2.2) N (v_at_60, v_behind_61, v_kind_62, v_wrong_63, v_wrongAt_64, v_number_66, v_fresh_68) = some (e_101, e_102, e_103, e_104, e_105, e_106, e_107) → Gx p l e (rmD 6) s m args below meth c D A 2 Q 0 0 60 [(0, .ref h_t_)] [] [(h_t_, .inr (11, [.ref h_a, .ref h_fresh, .ref h_kept, .int v_keptMany_56, .int v_thrown_57, .ref h_buffer, .int v_buffered_58, .int v_size_59, .int v_at_60, .int v_behind_61, .int v_kind_62, .int v_wrong_63, .int v_wrongAt_64, .int v_errorAt_65, .long v_number_66, .ref h_worthFrom, .ref h_cutsFrom, .ref h_endFrom, .ref h_changes, .ref h_waysFrom, .int v_toCut, .int v_toLeave, .ref h_costAt, .ref h_places, .ref h_isCut, .ref h_written, .int v_writtenMany])), (h_a, .inl (cJ, 499, .inr (.inl v_a_67))), (h_fresh, .inl (cJ, 499, .inr (.inl v_fresh_68))), (h_kept, .inl (cJ, 3992, .inr (.inl v_kept_69))), (h_buffer, .inl (cI, 900, .inl v_buffer))] := by
        intro v_keptMany_56 v_thrown_57 v_buffered_58 v_size_59 v_errorAt_65 v_a_67 v_kept_69 e_101 e_102 e_103 e_104 e_105 e_106 e_107 hx0 N
        induction N with
        | zero => intro v_at_60 v_behind_61 v_kind_62 v_wrong_63 v_wrongAt_64 v_number_66 v_fresh_68 hw; exact absurd hw (wh_0 _ _ _)
        | succ N ih =>
          intro v_at_60 v_behind_61 v_kind_62 v_wrong_63 v_wrongAt_64 v_number_66 v_fresh_68 hw
          have hF : S_X11_load_60 v_keptMany_56 v_thrown_57 v_buffered_58 v_size_59 v_errorAt_65 v_a_67 v_kept_69 v_buffer (wh (fun k q => S_X11_load_60 v_keptMany_56 v_thrown_57 v_buffered_58 v_size_59 v_errorAt_65 v_a_67 v_kept_69 v_buffer k q.1 q.2.1 q.2.2.1 q.2.2.2.1 q.2.2.2.2.1 q.2.2.2.2.2.1 q.2.2.2.2.2.2) N) v_at_60 v_behind_61 v_kind_62 v_wrong_63 v_wrongAt_64 v_number_66 v_fresh_68 = some (e_101, e_102, e_103, e_104, e_105, e_106, e_107) := hw
          unfold S_X11_load_60 at hF
          refine gq_aload_n hC 0 dX11_load_60 rfl rfl ?_
          refine gq_get hC (kf := 11) 0 hin_X11 rfl rfl (by decide) hw_131 rfl dX11_load_61 ?_
          refine gq_if_ne hC 132 dX11_load_64 (by decide) (fun hc_100 => ?_) (fun hc_100 => ?_)
          · have hF := (if_neg hc_100).symm.trans hF
            cases hF
            exact hx0
          · have hF := (if_pos hc_100).symm.trans hF
            refine gq_aload_n hC 0 dX11_load_67 rfl rfl ?_
            refine gq_get hC (kf := 10) 0 hin_X11 rfl rfl (by decide) hw_113 rfl dX11_load_68 ?_
            refine gq_iconst hC (3 : Int32) dX11_load_71 (by decide) ?_
            refine gq_icmp_eq hC 132 dX11_load_72 (by decide) (fun hc_99 => ?_) (fun hc_99 => ?_)
            · have hF := (if_pos hc_99).symm.trans hF
              cases hF
              exact hx0
            · have hF := (if_neg hc_99).symm.trans hF
              refine gq_aload_n hC 0 dX11_load_75 rfl rfl ?_
              refine gq_ldcS hC hC.2.2.2.2.2.2.2.2.2.2.2.2.2.2.1.2.2.1 dX11_load_76 ?_
              obtain ⟨r_70, hc_, hF⟩ := ob1_e hF
              refine gq_callVi hC [0, 4] [(h_t_, .inr (11, [.ref h_a, .ref h_fresh, .ref h_kept, .int v_keptMany_56, .int v_thrown_57, .ref h_buffer, .int v_buffered_58, .int v_size_59, .int v_at_60, .int v_behind_61, .int v_kind_62, .int v_wrong_63, .int v_wrongAt_64, .int v_errorAt_65, .long v_number_66, .ref h_worthFrom, .ref h_cutsFrom, .ref h_endFrom, .ref h_changes, .ref h_waysFrom, .int v_toCut, .int v_toLeave, .ref h_costAt, .ref h_places, .ref h_isCut, .ref h_written, .int v_writtenMany])), (h_a, .inl (cJ, 499, .inr (.inl v_a_67))), (h_fresh, .inl (cJ, 499, .inr (.inl v_fresh_68))), (h_kept, .inl (cJ, 3992, .inr (.inl v_kept_69))), (h_buffer, .inl (cI, 900, .inl v_buffer))] [.ref (z 3)] [] (k_X11_isWord l D cI cJ cZ cO z 0 (by decide) h_t_ h_buffer h_a h_fresh h_kept h_worthFrom h_cutsFrom h_endFrom h_changes h_waysFrom h_costAt h_places h_isCut h_written v_keptMany_56 v_thrown_57 v_buffered_58 v_size_59 v_at_60 v_behind_61 v_kind_62 v_wrong_63 v_wrongAt_64 v_errorAt_65 v_number_66 v_toCut v_toLeave v_writtenMany v_buffer r_70 hc_) gX11_load_X11_isWord rfl ⟨rfl, rfl⟩ hy_X11_isWord ⟨Nat.le_of_ble_eq_true rfl, Nat.le_of_ble_eq_true rfl⟩ rfl rfl rfl (q0 := 0) rfl rfl rfl (Nat.le_of_ble_eq_true rfl) rfl dX11_load_78 rfl rfl ?_
              refine gq_if_eq hC 91 dX11_load_81 (by decide) (fun hc_98 => ?_) (fun hc_98 => ?_)
              · have hF := (if_pos hc_98).symm.trans hF
                refine gq_aload_n hC 0 dX11_load_91 rfl rfl ?_
                refine gq_ldcS hC hC.2.2.2.2.2.2.2.2.2.2.2.2.2.2.1.2.2.2.1 dX11_load_92 ?_
                obtain ⟨r_71, hc_, hF⟩ := ob1_e hF
                refine gq_callVi hC [0, 4] [(h_t_, .inr (11, [.ref h_a, .ref h_fresh, .ref h_kept, .int v_keptMany_56, .int v_thrown_57, .ref h_buffer, .int v_buffered_58, .int v_size_59, .int v_at_60, .int v_behind_61, .int v_kind_62, .int v_wrong_63, .int v_wrongAt_64, .int v_errorAt_65, .long v_number_66, .ref h_worthFrom, .ref h_cutsFrom, .ref h_endFrom, .ref h_changes, .ref h_waysFrom, .int v_toCut, .int v_toLeave, .ref h_costAt, .ref h_places, .ref h_isCut, .ref h_written, .int v_writtenMany])), (h_a, .inl (cJ, 499, .inr (.inl v_a_67))), (h_fresh, .inl (cJ, 499, .inr (.inl v_fresh_68))), (h_kept, .inl (cJ, 3992, .inr (.inl v_kept_69))), (h_buffer, .inl (cI, 900, .inl v_buffer))] [.ref (z 4)] [] (k_X11_isWord l D cI cJ cZ cO z 1 (by decide) h_t_ h_buffer h_a h_fresh h_kept h_worthFrom h_cutsFrom h_endFrom h_changes h_waysFrom h_costAt h_places h_isCut h_written v_keptMany_56 v_thrown_57 v_buffered_58 v_size_59 v_at_60 v_behind_61 v_kind_62 v_wrong_63 v_wrongAt_64 v_errorAt_65 v_number_66 v_toCut v_toLeave v_writtenMany v_buffer r_71 hc_) gX11_load_X11_isWord rfl ⟨rfl, rfl⟩ hy_X11_isWord ⟨Nat.le_of_ble_eq_true rfl, Nat.le_of_ble_eq_true rfl⟩ rfl rfl rfl (q0 := 0) rfl rfl rfl (Nat.le_of_ble_eq_true rfl) rfl dX11_load_94 rfl rfl ?_
                refine gq_if_eq hC 107 dX11_load_97 (by decide) (fun hc_90 => ?_) (fun hc_90 => ?_)
                · have hF := (if_pos hc_90).symm.trans hF
                  refine gq_aload_n hC 0 dX11_load_107 rfl rfl ?_
                  refine gq_ldcS hC hC.2.2.2.2.2.2.2.2.2.2.2.2.2.2.1.2.2.2.2.1 dX11_load_108 ?_
                  obtain ⟨r_72, hc_, hF⟩ := ob1_e hF
                  refine gq_callVi hC [0, 4] [(h_t_, .inr (11, [.ref h_a, .ref h_fresh, .ref h_kept, .int v_keptMany_56, .int v_thrown_57, .ref h_buffer, .int v_buffered_58, .int v_size_59, .int v_at_60, .int v_behind_61, .int v_kind_62, .int v_wrong_63, .int v_wrongAt_64, .int v_errorAt_65, .long v_number_66, .ref h_worthFrom, .ref h_cutsFrom, .ref h_endFrom, .ref h_changes, .ref h_waysFrom, .int v_toCut, .int v_toLeave, .ref h_costAt, .ref h_places, .ref h_isCut, .ref h_written, .int v_writtenMany])), (h_a, .inl (cJ, 499, .inr (.inl v_a_67))), (h_fresh, .inl (cJ, 499, .inr (.inl v_fresh_68))), (h_kept, .inl (cJ, 3992, .inr (.inl v_kept_69))), (h_buffer, .inl (cI, 900, .inl v_buffer))] [.ref (z 5)] [] (k_X11_isWord l D cI cJ cZ cO z 2 (by decide) h_t_ h_buffer h_a h_fresh h_kept h_worthFrom h_cutsFrom h_endFrom h_changes h_waysFrom h_costAt h_places h_isCut h_written v_keptMany_56 v_thrown_57 v_buffered_58 v_size_59 v_at_60 v_behind_61 v_kind_62 v_wrong_63 v_wrongAt_64 v_errorAt_65 v_number_66 v_toCut v_toLeave v_writtenMany v_buffer r_72 hc_) gX11_load_X11_isWord rfl ⟨rfl, rfl⟩ hy_X11_isWord ⟨Nat.le_of_ble_eq_true rfl, Nat.le_of_ble_eq_true rfl⟩ rfl rfl rfl (q0 := 0) rfl rfl rfl (Nat.le_of_ble_eq_true rfl) rfl dX11_load_110 rfl rfl ?_
                  refine gq_if_eq hC 123 dX11_load_113 (by decide) (fun hc_82 => ?_) (fun hc_82 => ?_)
                  · have hF := (if_pos hc_82).symm.trans hF
                    refine gq_aload_n hC 0 dX11_load_123 rfl rfl ?_
                    refine gq_bipush hC (-2 : Int32) dX11_load_124 (by decide) ?_
                    obtain ⟨v_wrong_73, v_wrongAt_74, hc_, hF⟩ := ob2_e hF
                    refine gq_callVv hC [0] [(h_t_, .inr (11, [.ref h_a, .ref h_fresh, .ref h_kept, .int v_keptMany_56, .int v_thrown_57, .ref h_buffer, .int v_buffered_58, .int v_size_59, .int v_at_60, .int v_behind_61, .int v_kind_62, .int v_wrong_73, .int v_wrongAt_74, .int v_errorAt_65, .long v_number_66, .ref h_worthFrom, .ref h_cutsFrom, .ref h_endFrom, .ref h_changes, .ref h_waysFrom, .int v_toCut, .int v_toLeave, .ref h_costAt, .ref h_places, .ref h_isCut, .ref h_written, .int v_writtenMany])), (h_a, .inl (cJ, 499, .inr (.inl v_a_67))), (h_fresh, .inl (cJ, 499, .inr (.inl v_fresh_68))), (h_kept, .inl (cJ, 3992, .inr (.inl v_kept_69))), (h_buffer, .inl (cI, 900, .inl v_buffer))] [.int (-2 : Int32)] [] (k_X11_fails l D cI cJ cZ cO z h_t_ h_a h_fresh h_kept h_buffer h_worthFrom h_cutsFrom h_endFrom h_changes h_waysFrom h_costAt h_places h_isCut h_written (-2 : Int32) v_keptMany_56 v_thrown_57 v_buffered_58 v_size_59 v_at_60 v_behind_61 v_kind_62 v_wrong_63 v_wrongAt_64 v_errorAt_65 v_number_66 v_toCut v_toLeave v_writtenMany v_wrong_73 v_wrongAt_74 hc_) gX11_load_X11_fails rfl ⟨rfl, rfl⟩ hy_X11_fails ⟨Nat.le_of_ble_eq_true rfl, Nat.le_of_ble_eq_true rfl⟩ rfl rfl rfl (q0 := 0) rfl rfl rfl (Nat.le_of_ble_eq_true rfl) rfl dX11_load_126 rfl rfl ?_
                    refine gq_goto hC 60 dX11_load_129 (by decide) ?_
                    exact ih v_at_60 v_behind_61 v_kind_62 v_wrong_73 v_wrongAt_74 v_number_66 v_fresh_68 hF
                  · have hF := (if_neg hc_82).symm.trans hF
                    refine gq_aload_n hC 0 dX11_load_116 rfl rfl ?_
                    obtain ⟨v_at_75, v_behind_76, v_kind_77, v_wrong_78, v_wrongAt_79, v_number_80, v_fresh_81, hc_, hF⟩ := ob7_e hF
                    refine gq_callVv hC [0, 2, 4] [(h_t_, .inr (11, [.ref h_a, .ref h_fresh, .ref h_kept, .int v_keptMany_56, .int v_thrown_57, .ref h_buffer, .int v_buffered_58, .int v_size_59, .int v_at_75, .int v_behind_76, .int v_kind_77, .int v_wrong_78, .int v_wrongAt_79, .int v_errorAt_65, .long v_number_80, .ref h_worthFrom, .ref h_cutsFrom, .ref h_endFrom, .ref h_changes, .ref h_waysFrom, .int v_toCut, .int v_toLeave, .ref h_costAt, .ref h_places, .ref h_isCut, .ref h_written, .int v_writtenMany])), (h_a, .inl (cJ, 499, .inr (.inl v_a_67))), (h_fresh, .inl (cJ, 499, .inr (.inl v_fresh_81))), (h_kept, .inl (cJ, 3992, .inr (.inl v_kept_69))), (h_buffer, .inl (cI, 900, .inl v_buffer))] [] [] (k_X11_readsSetting l D cI cJ cZ cO z h_t_ h_fresh h_buffer h_a h_kept h_worthFrom h_cutsFrom h_endFrom h_changes h_waysFrom h_costAt h_places h_isCut h_written v_keptMany_56 v_thrown_57 v_buffered_58 v_size_59 v_at_60 v_behind_61 v_kind_62 v_wrong_63 v_wrongAt_64 v_errorAt_65 v_number_66 v_toCut v_toLeave v_writtenMany v_fresh_68 v_buffer v_at_75 v_behind_76 v_kind_77 v_wrong_78 v_wrongAt_79 v_number_80 v_fresh_81 hc_) gX11_load_X11_readsSetting rfl ⟨rfl, rfl⟩ hy_X11_readsSetting ⟨Nat.le_of_ble_eq_true rfl, Nat.le_of_ble_eq_true rfl⟩ rfl rfl rfl (q0 := 0) rfl rfl rfl (Nat.le_of_ble_eq_true rfl) rfl dX11_load_117 rfl rfl ?_
                    refine gq_goto hC 60 dX11_load_120 (by decide) ?_
                    exact ih v_at_75 v_behind_76 v_kind_77 v_wrong_78 v_wrongAt_79 v_number_80 v_fresh_81 hF
                · have hF := (if_neg hc_90).symm.trans hF
                  refine gq_aload_n hC 0 dX11_load_100 rfl rfl ?_
                  obtain ⟨v_at_83, v_behind_84, v_kind_85, v_wrong_86, v_wrongAt_87, v_number_88, v_fresh_89, hc_, hF⟩ := ob7_e hF
                  refine gq_callVv hC [0, 2, 4] [(h_t_, .inr (11, [.ref h_a, .ref h_fresh, .ref h_kept, .int v_keptMany_56, .int v_thrown_57, .ref h_buffer, .int v_buffered_58, .int v_size_59, .int v_at_83, .int v_behind_84, .int v_kind_85, .int v_wrong_86, .int v_wrongAt_87, .int v_errorAt_65, .long v_number_88, .ref h_worthFrom, .ref h_cutsFrom, .ref h_endFrom, .ref h_changes, .ref h_waysFrom, .int v_toCut, .int v_toLeave, .ref h_costAt, .ref h_places, .ref h_isCut, .ref h_written, .int v_writtenMany])), (h_a, .inl (cJ, 499, .inr (.inl v_a_67))), (h_fresh, .inl (cJ, 499, .inr (.inl v_fresh_89))), (h_kept, .inl (cJ, 3992, .inr (.inl v_kept_69))), (h_buffer, .inl (cI, 900, .inl v_buffer))] [] [] (k_X11_readsSlot l D cI cJ cZ cO z h_t_ h_fresh h_buffer h_a h_kept h_worthFrom h_cutsFrom h_endFrom h_changes h_waysFrom h_costAt h_places h_isCut h_written v_keptMany_56 v_thrown_57 v_buffered_58 v_size_59 v_at_60 v_behind_61 v_kind_62 v_wrong_63 v_wrongAt_64 v_errorAt_65 v_number_66 v_toCut v_toLeave v_writtenMany v_fresh_68 v_buffer v_at_83 v_behind_84 v_kind_85 v_wrong_86 v_wrongAt_87 v_number_88 v_fresh_89 hc_) gX11_load_X11_readsSlot rfl ⟨rfl, rfl⟩ hy_X11_readsSlot ⟨Nat.le_of_ble_eq_true rfl, Nat.le_of_ble_eq_true rfl⟩ rfl rfl rfl (q0 := 0) rfl rfl rfl (Nat.le_of_ble_eq_true rfl) rfl dX11_load_101 rfl rfl ?_
                  refine gq_goto hC 60 dX11_load_104 (by decide) ?_
                  exact ih v_at_83 v_behind_84 v_kind_85 v_wrong_86 v_wrongAt_87 v_number_88 v_fresh_89 hF
              · have hF := (if_neg hc_98).symm.trans hF
                refine gq_aload_n hC 0 dX11_load_84 rfl rfl ?_
                obtain ⟨v_at_91, v_behind_92, v_kind_93, v_wrong_94, v_wrongAt_95, v_number_96, v_fresh_97, hc_, hF⟩ := ob7_e hF
                refine gq_callVv hC [0, 2, 4] [(h_t_, .inr (11, [.ref h_a, .ref h_fresh, .ref h_kept, .int v_keptMany_56, .int v_thrown_57, .ref h_buffer, .int v_buffered_58, .int v_size_59, .int v_at_91, .int v_behind_92, .int v_kind_93, .int v_wrong_94, .int v_wrongAt_95, .int v_errorAt_65, .long v_number_96, .ref h_worthFrom, .ref h_cutsFrom, .ref h_endFrom, .ref h_changes, .ref h_waysFrom, .int v_toCut, .int v_toLeave, .ref h_costAt, .ref h_places, .ref h_isCut, .ref h_written, .int v_writtenMany])), (h_a, .inl (cJ, 499, .inr (.inl v_a_67))), (h_fresh, .inl (cJ, 499, .inr (.inl v_fresh_97))), (h_kept, .inl (cJ, 3992, .inr (.inl v_kept_69))), (h_buffer, .inl (cI, 900, .inl v_buffer))] [] [] (k_X11_readsSegment l D cI cJ cZ cO z h_t_ h_fresh h_buffer h_a h_kept h_worthFrom h_cutsFrom h_endFrom h_changes h_waysFrom h_costAt h_places h_isCut h_written v_keptMany_56 v_thrown_57 v_buffered_58 v_size_59 v_at_60 v_behind_61 v_kind_62 v_wrong_63 v_wrongAt_64 v_errorAt_65 v_number_66 v_toCut v_toLeave v_writtenMany v_fresh_68 v_buffer v_at_91 v_behind_92 v_kind_93 v_wrong_94 v_wrongAt_95 v_number_96 v_fresh_97 hc_) gX11_load_X11_readsSegment rfl ⟨rfl, rfl⟩ hy_X11_readsSegment ⟨Nat.le_of_ble_eq_true rfl, Nat.le_of_ble_eq_true rfl⟩ rfl rfl rfl (q0 := 0) rfl rfl rfl (Nat.le_of_ble_eq_true rfl) rfl dX11_load_85 rfl rfl ?_
                refine gq_goto hC 60 dX11_load_88 (by decide) ?_
                exact ih v_at_91 v_behind_92 v_kind_93 v_wrong_94 v_wrongAt_95 v_number_96 v_fresh_97 hF
      refine gq_sub [(0, .ref h_t_)] [0] rfl ?_
      obtain ⟨e_108, e_109, e_110, e_111, e_112, e_113, e_114, hw_, hF⟩ := ob7_e hF
      refine lp60 v_keptMany_37 st_36 (0 : Int32) x1 v_errorAt_46 v_a_48 v_kept_50 e_108 e_109 e_110 e_111 e_112 e_113 e_114 ?_ wF v_at_52 v_behind_53 v_kind_54 (0 : Int32) v_wrongAt_45 v_number_55 v_fresh_51 hw_
      exact jb132 v_keptMany_37 st_36 (0 : Int32) x1 e_108 e_109 e_110 e_111 e_112 v_errorAt_46 e_113 v_a_48 e_114 v_kept_50 hF
    · have hF := (if_neg hc_115).symm.trans hF
      refine gq_iconst hC (0 : Int32) dX11_load_30 (by decide) ?_
      cases hF
      rw [hQ]
      exact gq_iret hC rfl dX11_load_31
  unfold F_X11_load at hF
  refine gq_aload_n hC 0 dX11_load_0 rfl rfl ?_
  refine gq_iload_n hC 1 dX11_load_1 rfl rfl ?_
  refine gq_i2l hC dX11_load_2 ?_
  refine gq_lconst hC (0 : Int64) dX11_load_3 (by decide) ?_
  refine gq_aload_n hC 0 dX11_load_4 rfl rfl ?_
  refine gq_get hC (kf := 6) 0 hin_X11 rfl rfl (by decide) hw_85 rfl dX11_load_5 ?_
  refine gq_i2l hC dX11_load_8 ?_
  obtain ⟨r_116, hc_, hF⟩ := ob1_e hF
  refine gq_callSi hC [] [(h_t_, .inr (11, [.ref h_a, .ref h_fresh, .ref h_kept, .int v_keptMany, .int v_thrown, .ref h_buffer, .int v_buffered, .int v_size, .int v_at, .int v_behind, .int v_kind, .int v_wrong, .int v_wrongAt, .int v_errorAt, .long v_number, .ref h_worthFrom, .ref h_cutsFrom, .ref h_endFrom, .ref h_changes, .ref h_waysFrom, .int v_toCut, .int v_toLeave, .ref h_costAt, .ref h_places, .ref h_isCut, .ref h_written, .int v_writtenMany])), (h_a, .inl (cJ, 499, .inr (.inl v_a))), (h_fresh, .inl (cJ, 499, .inr (.inl v_fresh))), (h_kept, .inl (cJ, 3992, .inr (.inl v_kept))), (h_buffer, .inl (cI, 900, .inl v_buffer))] [.long (x1.toInt64), .long (0 : Int64), .long (v_buffered.toInt64)] [.ref h_t_] (k_X11_isIn l D cI cJ cZ cO z  (x1.toInt64) (0 : Int64) (v_buffered.toInt64) r_116 hc_) gX11_load_X11_isIn rfl ⟨rfl, rfl⟩ hy_X11_isIn rfl ⟨Nat.le_of_ble_eq_true rfl, Nat.le_of_ble_eq_true rfl⟩ rfl rfl rfl (Nat.le_of_ble_eq_true rfl) rfl dX11_load_9 rfl rfl ?_
  refine gq_if_eq hC 19 dX11_load_12 (by decide) (fun hc_117 => ?_) (fun hc_117 => ?_)
  · have hF := (if_pos hc_117).symm.trans hF
    refine gq_iconst hC (1 : Int32) dX11_load_19 (by decide) ?_
    exact jb20 (1 : Int32) v_keptMany v_thrown v_buffered v_size v_at v_behind v_kind v_wrong v_wrongAt v_errorAt v_number v_a v_fresh v_kept hF
  · have hF := (if_neg hc_117).symm.trans hF
    refine gq_iconst hC (0 : Int32) dX11_load_15 (by decide) ?_
    refine gq_goto hC 20 dX11_load_16 (by decide) ?_
    exact jb20 (0 : Int32) v_keptMany v_thrown v_buffered v_size v_at v_behind v_kind v_wrong v_wrongAt v_errorAt v_number v_a v_fresh v_kept hF
theorem hy_X11_errorPosition : yX11_errorPosition.cls = RX11 ∧ yX11_errorPosition.cls ≠ "java/lang/invoke/MethodHandle" ∧ yX11_errorPosition.cls ≠ "java/lang/invoke/VarHandle" ∧ (parseMethodDescriptor yX11_errorPosition.desc).map (fun d => d.parameters.length) = some 0 := by decide +kernel
set_option maxRecDepth 20000 in
set_option maxHeartbeats 4000000 in
theorem k_X11_errorPosition (l : Launch) (D : va_G) (cI cJ cZ cO : ClassId) (z : Nat → Nat)   (h_t_ : Nat) (h_a : Nat) (h_fresh : Nat) (h_kept : Nat) (h_buffer : Nat) (h_worthFrom : Nat) (h_cutsFrom : Nat) (h_endFrom : Nat) (h_changes : Nat) (h_waysFrom : Nat) (h_costAt : Nat) (h_places : Nat) (h_isCut : Nat) (h_written : Nat)  (v_keptMany : Int32) (v_thrown : Int32) (v_buffered : Int32) (v_size : Int32) (v_at : Int32) (v_behind : Int32) (v_kind : Int32) (v_wrong : Int32) (v_wrongAt : Int32) (v_errorAt : Int32) (v_number : Int64) (v_toCut : Int32) (v_toLeave : Int32) (v_writtenMany : Int32) (r_ : Int32) (w_thrown : Int32) (hF : F_X11_errorPosition v_thrown v_errorAt = some (r_, w_thrown)) : Mi l yX11_errorPosition wsX11_errorPosition (rmD 0) D (gq_ty cI cJ cZ cO) z [.ref h_t_] [(h_t_, .inr (11, [.ref h_a, .ref h_fresh, .ref h_kept, .int v_keptMany, .int v_thrown, .ref h_buffer, .int v_buffered, .int v_size, .int v_at, .int v_behind, .int v_kind, .int v_wrong, .int v_wrongAt, .int v_errorAt, .long v_number, .ref h_worthFrom, .ref h_cutsFrom, .ref h_endFrom, .ref h_changes, .ref h_waysFrom, .int v_toCut, .int v_toLeave, .ref h_costAt, .ref h_places, .ref h_isCut, .ref h_written, .int v_writtenMany]))] r_ [(h_t_, .inr (11, [.ref h_a, .ref h_fresh, .ref h_kept, .int v_keptMany, .int w_thrown, .ref h_buffer, .int v_buffered, .int v_size, .int v_at, .int v_behind, .int v_kind, .int v_wrong, .int v_wrongAt, .int v_errorAt, .long v_number, .ref h_worthFrom, .ref h_cutsFrom, .ref h_endFrom, .ref h_changes, .ref h_waysFrom, .int v_toCut, .int v_toLeave, .ref h_costAt, .ref h_places, .ref h_isCut, .ref h_written, .int v_writtenMany]))] 0 0 := by
  refine Mi.of (cc := cX11_errorPosition) (maxL := 1) (by decide) rfl (Nat.le_of_ble_eq_true rfl) ⟨Nat.le_refl 0, Nat.le_refl 0⟩ ?_
  intro p e s m args below meth c A hC ha
  have hin_X11 : ∀ w ∈ wsX110, w ∈ wsX11_errorPosition := by decide +kernel
  have hw_23 : Cond.fieldLink RX11 23 (TX11 13).1 (TX11 13).2.1 (TX11 13).2.2.1 ∈ wsX11_errorPosition := by decide +kernel
  have hw_79 : Cond.fieldLink RX11 79 (TX11 4).1 (TX11 4).2.1 (TX11 4).2.2.1 ∈ wsX11_errorPosition := by decide +kernel
  obtain ⟨Q, hQ⟩ : ∃ Q, Q = gq_Qi below D A args s r_ [(h_t_, .inr (11, [.ref h_a, .ref h_fresh, .ref h_kept, .int v_keptMany, .int w_thrown, .ref h_buffer, .int v_buffered, .int v_size, .int v_at, .int v_behind, .int v_kind, .int v_wrong, .int v_wrongAt, .int v_errorAt, .long v_number, .ref h_worthFrom, .ref h_cutsFrom, .ref h_endFrom, .ref h_changes, .ref h_waysFrom, .int v_toCut, .int v_toLeave, .ref h_costAt, .ref h_places, .ref h_isCut, .ref h_written, .int v_writtenMany]))] 0 0 := ⟨_, rfl⟩
  rw [← hQ]
  refine gq_loc [(0, .ref h_t_)] rfl ?_
  unfold F_X11_errorPosition at hF
  refine gq_aload_n hC 0 dX11_errorPosition_0 rfl rfl ?_
  refine gq_iconst hC (0 : Int32) dX11_errorPosition_1 (by decide) ?_
  refine gq_put1 hC (kf := 4) 0 [(h_t_, .inr (11, [.ref h_a, .ref h_fresh, .ref h_kept, .int v_keptMany, .int (0 : Int32), .ref h_buffer, .int v_buffered, .int v_size, .int v_at, .int v_behind, .int v_kind, .int v_wrong, .int v_wrongAt, .int v_errorAt, .long v_number, .ref h_worthFrom, .ref h_cutsFrom, .ref h_endFrom, .ref h_changes, .ref h_waysFrom, .int v_toCut, .int v_toLeave, .ref h_costAt, .ref h_places, .ref h_isCut, .ref h_written, .int v_writtenMany]))] tyX11 tyX11_ok nmX11 hin_X11 rfl rfl (by decide) hw_79 rfl rfl rfl (Nat.le_of_ble_eq_true rfl) dX11_errorPosition_2 rfl ?_
  refine gq_aload_n hC 0 dX11_errorPosition_5 rfl rfl ?_
  refine gq_get hC (kf := 13) 0 hin_X11 rfl rfl (by decide) hw_23 rfl dX11_errorPosition_6 ?_
  cases hF
  rw [hQ]
  exact gq_iret hC rfl dX11_errorPosition_9
theorem hy_X11_many : yX11_many.cls = RX11 ∧ yX11_many.cls ≠ "java/lang/invoke/MethodHandle" ∧ yX11_many.cls ≠ "java/lang/invoke/VarHandle" ∧ (parseMethodDescriptor yX11_many.desc).map (fun d => d.parameters.length) = some 0 := by decide +kernel
set_option maxRecDepth 20000 in
set_option maxHeartbeats 4000000 in
theorem k_X11_many (l : Launch) (D : va_G) (cI cJ cZ cO : ClassId) (z : Nat → Nat)   (h_t_ : Nat) (h_a : Nat) (h_fresh : Nat) (h_kept : Nat) (h_buffer : Nat) (h_worthFrom : Nat) (h_cutsFrom : Nat) (h_endFrom : Nat) (h_changes : Nat) (h_waysFrom : Nat) (h_costAt : Nat) (h_places : Nat) (h_isCut : Nat) (h_written : Nat)  (v_keptMany : Int32) (v_thrown : Int32) (v_buffered : Int32) (v_size : Int32) (v_at : Int32) (v_behind : Int32) (v_kind : Int32) (v_wrong : Int32) (v_wrongAt : Int32) (v_errorAt : Int32) (v_number : Int64) (v_toCut : Int32) (v_toLeave : Int32) (v_writtenMany : Int32) (v_a : Nat → Int64) (r_ : Int32) (hF : F_X11_many v_a = some r_) : Mi l yX11_many wsX11_many (rmD 0) D (gq_ty cI cJ cZ cO) z [.ref h_t_] [(h_t_, .inr (11, [.ref h_a, .ref h_fresh, .ref h_kept, .int v_keptMany, .int v_thrown, .ref h_buffer, .int v_buffered, .int v_size, .int v_at, .int v_behind, .int v_kind, .int v_wrong, .int v_wrongAt, .int v_errorAt, .long v_number, .ref h_worthFrom, .ref h_cutsFrom, .ref h_endFrom, .ref h_changes, .ref h_waysFrom, .int v_toCut, .int v_toLeave, .ref h_costAt, .ref h_places, .ref h_isCut, .ref h_written, .int v_writtenMany])), (h_a, .inl (cJ, 499, .inr (.inl v_a)))] r_ [(h_t_, .inr (11, [.ref h_a, .ref h_fresh, .ref h_kept, .int v_keptMany, .int v_thrown, .ref h_buffer, .int v_buffered, .int v_size, .int v_at, .int v_behind, .int v_kind, .int v_wrong, .int v_wrongAt, .int v_errorAt, .long v_number, .ref h_worthFrom, .ref h_cutsFrom, .ref h_endFrom, .ref h_changes, .ref h_waysFrom, .int v_toCut, .int v_toLeave, .ref h_costAt, .ref h_places, .ref h_isCut, .ref h_written, .int v_writtenMany])), (h_a, .inl (cJ, 499, .inr (.inl v_a)))] 0 0 := by
  refine Mi.of (cc := cX11_many) (maxL := 1) (by decide) rfl (Nat.le_of_ble_eq_true rfl) ⟨Nat.le_refl 0, Nat.le_refl 0⟩ ?_
  intro p e s m args below meth c A hC ha
  have hin_X11 : ∀ w ∈ wsX110, w ∈ wsX11_many := by decide +kernel
  have hw_9 : Cond.fieldLink RX11 9 (TX11 0).1 (TX11 0).2.1 (TX11 0).2.2.1 ∈ wsX11_many := by decide +kernel
  obtain ⟨Q, hQ⟩ : ∃ Q, Q = gq_Qi below D A args s r_ [(h_t_, .inr (11, [.ref h_a, .ref h_fresh, .ref h_kept, .int v_keptMany, .int v_thrown, .ref h_buffer, .int v_buffered, .int v_size, .int v_at, .int v_behind, .int v_kind, .int v_wrong, .int v_wrongAt, .int v_errorAt, .long v_number, .ref h_worthFrom, .ref h_cutsFrom, .ref h_endFrom, .ref h_changes, .ref h_waysFrom, .int v_toCut, .int v_toLeave, .ref h_costAt, .ref h_places, .ref h_isCut, .ref h_written, .int v_writtenMany])), (h_a, .inl (cJ, 499, .inr (.inl v_a)))] 0 0 := ⟨_, rfl⟩
  rw [← hQ]
  refine gq_loc [(0, .ref h_t_)] rfl ?_
  unfold F_X11_many at hF
  refine gq_aload_n hC 0 dX11_many_0 rfl rfl ?_
  refine gq_get hC (kf := 0) 0 hin_X11 rfl rfl (by decide) hw_9 rfl dX11_many_1 ?_
  refine gq_bipush hC (6 : Int32) dX11_many_4 (by decide) ?_
  obtain ⟨hi_1, hF⟩ := gi_e hF
  refine gq_lald hC 1 1 rfl rfl hi_1 dX11_many_6 ?_
  refine gq_l2i hC dX11_many_7 ?_
  cases hF
  rw [hQ]
  exact gq_iret hC rfl dX11_many_8
theorem hy_X11_of : yX11_of.cls = RX11 ∧ yX11_of.cls ≠ "java/lang/invoke/MethodHandle" ∧ yX11_of.cls ≠ "java/lang/invoke/VarHandle" ∧ (parseMethodDescriptor yX11_of.desc).map (fun d => d.parameters.length) = some 2 := by decide +kernel
set_option maxRecDepth 20000 in
set_option maxHeartbeats 4000000 in
theorem k_X11_of (l : Launch) (D : va_G) (cI cJ cZ cO : ClassId) (z : Nat → Nat)   (h_t_ : Nat) (h_a : Nat) (h_fresh : Nat) (h_kept : Nat) (h_buffer : Nat) (h_worthFrom : Nat) (h_cutsFrom : Nat) (h_endFrom : Nat) (h_changes : Nat) (h_waysFrom : Nat) (h_costAt : Nat) (h_places : Nat) (h_isCut : Nat) (h_written : Nat) (x1 : Int32) (x2 : Int32) (v_keptMany : Int32) (v_thrown : Int32) (v_buffered : Int32) (v_size : Int32) (v_at : Int32) (v_behind : Int32) (v_kind : Int32) (v_wrong : Int32) (v_wrongAt : Int32) (v_errorAt : Int32) (v_number : Int64) (v_toCut : Int32) (v_toLeave : Int32) (v_writtenMany : Int32) (v_a : Nat → Int64) (r_ : Int32) (hF : F_X11_of x1 x2 v_a = some r_) : Mi l yX11_of wsX11_of (rmD 0) D (gq_ty cI cJ cZ cO) z [.ref h_t_, .int x1, .int x2] [(h_t_, .inr (11, [.ref h_a, .ref h_fresh, .ref h_kept, .int v_keptMany, .int v_thrown, .ref h_buffer, .int v_buffered, .int v_size, .int v_at, .int v_behind, .int v_kind, .int v_wrong, .int v_wrongAt, .int v_errorAt, .long v_number, .ref h_worthFrom, .ref h_cutsFrom, .ref h_endFrom, .ref h_changes, .ref h_waysFrom, .int v_toCut, .int v_toLeave, .ref h_costAt, .ref h_places, .ref h_isCut, .ref h_written, .int v_writtenMany])), (h_a, .inl (cJ, 499, .inr (.inl v_a)))] r_ [(h_t_, .inr (11, [.ref h_a, .ref h_fresh, .ref h_kept, .int v_keptMany, .int v_thrown, .ref h_buffer, .int v_buffered, .int v_size, .int v_at, .int v_behind, .int v_kind, .int v_wrong, .int v_wrongAt, .int v_errorAt, .long v_number, .ref h_worthFrom, .ref h_cutsFrom, .ref h_endFrom, .ref h_changes, .ref h_waysFrom, .int v_toCut, .int v_toLeave, .ref h_costAt, .ref h_places, .ref h_isCut, .ref h_written, .int v_writtenMany])), (h_a, .inl (cJ, 499, .inr (.inl v_a)))] 0 0 := by
  refine Mi.of (cc := cX11_of) (maxL := 3) (by decide) rfl (Nat.le_of_ble_eq_true rfl) ⟨Nat.le_refl 0, Nat.le_refl 0⟩ ?_
  intro p e s m args below meth c A hC ha
  have hin_X11 : ∀ w ∈ wsX110, w ∈ wsX11_of := by decide +kernel
  have hw_9 : Cond.fieldLink RX11 9 (TX11 0).1 (TX11 0).2.1 (TX11 0).2.2.1 ∈ wsX11_of := by decide +kernel
  obtain ⟨Q, hQ⟩ : ∃ Q, Q = gq_Qi below D A args s r_ [(h_t_, .inr (11, [.ref h_a, .ref h_fresh, .ref h_kept, .int v_keptMany, .int v_thrown, .ref h_buffer, .int v_buffered, .int v_size, .int v_at, .int v_behind, .int v_kind, .int v_wrong, .int v_wrongAt, .int v_errorAt, .long v_number, .ref h_worthFrom, .ref h_cutsFrom, .ref h_endFrom, .ref h_changes, .ref h_waysFrom, .int v_toCut, .int v_toLeave, .ref h_costAt, .ref h_places, .ref h_isCut, .ref h_written, .int v_writtenMany])), (h_a, .inl (cJ, 499, .inr (.inl v_a)))] 0 0 := ⟨_, rfl⟩
  rw [← hQ]
  refine gq_loc [(0, .ref h_t_), (1, .int x1), (2, .int x2)] rfl ?_
  unfold F_X11_of at hF
  refine gq_aload_n hC 0 dX11_of_0 rfl rfl ?_
  refine gq_get hC (kf := 0) 0 hin_X11 rfl rfl (by decide) hw_9 rfl dX11_of_1 ?_
  refine gq_bipush hC (10 : Int32) dX11_of_4 (by decide) ?_
  refine gq_bipush hC (12 : Int32) dX11_of_6 (by decide) ?_
  refine gq_iload_n hC 1 dX11_of_8 rfl rfl ?_
  refine gq_imul hC dX11_of_9 ?_
  refine gq_iadd hC dX11_of_10 ?_
  refine gq_iload_n hC 2 dX11_of_11 rfl rfl ?_
  refine gq_iadd hC dX11_of_12 ?_
  obtain ⟨hi_1, hF⟩ := gi_e hF
  refine gq_lald hC 1 1 rfl rfl hi_1 dX11_of_13 ?_
  refine gq_l2i hC dX11_of_14 ?_
  cases hF
  rw [hQ]
  exact gq_iret hC rfl dX11_of_15
theorem hy_X11_spoken : yX11_spoken.cls = RX11 ∧ yX11_spoken.cls ≠ "java/lang/invoke/MethodHandle" ∧ yX11_spoken.cls ≠ "java/lang/invoke/VarHandle" ∧ (parseMethodDescriptor yX11_spoken.desc).map (fun d => d.parameters.length) = some 1 := by decide +kernel
set_option maxRecDepth 20000 in
set_option maxHeartbeats 4000000 in
theorem k_X11_spoken (l : Launch) (D : va_G) (cI cJ cZ cO : ClassId) (z : Nat → Nat)   (h_t_ : Nat) (h_a : Nat) (h_fresh : Nat) (h_kept : Nat) (h_buffer : Nat) (h_worthFrom : Nat) (h_cutsFrom : Nat) (h_endFrom : Nat) (h_changes : Nat) (h_waysFrom : Nat) (h_costAt : Nat) (h_places : Nat) (h_isCut : Nat) (h_written : Nat) (x1 : Int32) (v_keptMany : Int32) (v_thrown : Int32) (v_buffered : Int32) (v_size : Int32) (v_at : Int32) (v_behind : Int32) (v_kind : Int32) (v_wrong : Int32) (v_wrongAt : Int32) (v_errorAt : Int32) (v_number : Int64) (v_toCut : Int32) (v_toLeave : Int32) (v_writtenMany : Int32) (v_a : Nat → Int64) (r_ : Int32) (hF : F_X11_spoken x1 v_a = some r_) : Mi l yX11_spoken wsX11_spoken (rmD 1) D (gq_ty cI cJ cZ cO) z [.ref h_t_, .int x1] [(h_t_, .inr (11, [.ref h_a, .ref h_fresh, .ref h_kept, .int v_keptMany, .int v_thrown, .ref h_buffer, .int v_buffered, .int v_size, .int v_at, .int v_behind, .int v_kind, .int v_wrong, .int v_wrongAt, .int v_errorAt, .long v_number, .ref h_worthFrom, .ref h_cutsFrom, .ref h_endFrom, .ref h_changes, .ref h_waysFrom, .int v_toCut, .int v_toLeave, .ref h_costAt, .ref h_places, .ref h_isCut, .ref h_written, .int v_writtenMany])), (h_a, .inl (cJ, 499, .inr (.inl v_a)))] r_ [(h_t_, .inr (11, [.ref h_a, .ref h_fresh, .ref h_kept, .int v_keptMany, .int v_thrown, .ref h_buffer, .int v_buffered, .int v_size, .int v_at, .int v_behind, .int v_kind, .int v_wrong, .int v_wrongAt, .int v_errorAt, .long v_number, .ref h_worthFrom, .ref h_cutsFrom, .ref h_endFrom, .ref h_changes, .ref h_waysFrom, .int v_toCut, .int v_toLeave, .ref h_costAt, .ref h_places, .ref h_isCut, .ref h_written, .int v_writtenMany])), (h_a, .inl (cJ, 499, .inr (.inl v_a)))] 0 0 := by
  refine Mi.of (cc := cX11_spoken) (maxL := 4) (by decide) rfl (Nat.le_of_ble_eq_true rfl) ⟨Nat.le_refl 0, Nat.le_refl 0⟩ ?_
  intro p e s m args below meth c A hC ha
  obtain ⟨Q, hQ⟩ : ∃ Q, Q = gq_Qi below D A args s r_ [(h_t_, .inr (11, [.ref h_a, .ref h_fresh, .ref h_kept, .int v_keptMany, .int v_thrown, .ref h_buffer, .int v_buffered, .int v_size, .int v_at, .int v_behind, .int v_kind, .int v_wrong, .int v_wrongAt, .int v_errorAt, .long v_number, .ref h_worthFrom, .ref h_cutsFrom, .ref h_endFrom, .ref h_changes, .ref h_waysFrom, .int v_toCut, .int v_toLeave, .ref h_costAt, .ref h_places, .ref h_isCut, .ref h_written, .int v_writtenMany])), (h_a, .inl (cJ, 499, .inr (.inl v_a)))] 0 0 := ⟨_, rfl⟩
  rw [← hQ]
  refine gq_loc [(0, .ref h_t_), (1, .int x1)] rfl ?_
  unfold F_X11_spoken at hF
  refine gq_iconst hC (0 : Int32) dX11_spoken_0 (by decide) ?_
  refine gq_istore_n hC [(2, .int (0 : Int32)), (0, .ref h_t_), (1, .int x1)] dX11_spoken_1 rfl (by decide) rfl ?_
  refine gq_iconst hC (0 : Int32) dX11_spoken_2 (by decide) ?_
  refine gq_istore_n hC [(3, .int (0 : Int32)), (2, .int (0 : Int32)), (0, .ref h_t_), (1, .int x1)] dX11_spoken_3 rfl (by decide) rfl ?_
  have lp4 : ∀ (e_5 : Int32), Gx p l e (rmD 1) s m args below meth c D A 4 Q 0 0 24 [(2, .int e_5)] [] [(h_t_, .inr (11, [.ref h_a, .ref h_fresh, .ref h_kept, .int v_keptMany, .int v_thrown, .ref h_buffer, .int v_buffered, .int v_size, .int v_at, .int v_behind, .int v_kind, .int v_wrong, .int v_wrongAt, .int v_errorAt, .long v_number, .ref h_worthFrom, .ref h_cutsFrom, .ref h_endFrom, .ref h_changes, .ref h_waysFrom, .int v_toCut, .int v_toLeave, .ref h_costAt, .ref h_places, .ref h_isCut, .ref h_written, .int v_writtenMany])), (h_a, .inl (cJ, 499, .inr (.inl v_a)))] → ∀ (N : Nat) (l2_1 : Int32) (l3_2 : Int32), wh (fun k q => S_X11_spoken_4 x1 v_a k q.1 q.2) N (l2_1, l3_2) = some e_5 → Gx p l e (rmD 1) s m args below meth c D A 4 Q 0 0 4 [(0, .ref h_t_), (1, .int x1), (2, .int l2_1), (3, .int l3_2)] [] [(h_t_, .inr (11, [.ref h_a, .ref h_fresh, .ref h_kept, .int v_keptMany, .int v_thrown, .ref h_buffer, .int v_buffered, .int v_size, .int v_at, .int v_behind, .int v_kind, .int v_wrong, .int v_wrongAt, .int v_errorAt, .long v_number, .ref h_worthFrom, .ref h_cutsFrom, .ref h_endFrom, .ref h_changes, .ref h_waysFrom, .int v_toCut, .int v_toLeave, .ref h_costAt, .ref h_places, .ref h_isCut, .ref h_written, .int v_writtenMany])), (h_a, .inl (cJ, 499, .inr (.inl v_a)))] := by
    intro e_5 hx0 N
    induction N with
    | zero => intro l2_1 l3_2 hw; exact absurd hw (wh_0 _ _ _)
    | succ N ih =>
      intro l2_1 l3_2 hw
      have hF : S_X11_spoken_4 x1 v_a (wh (fun k q => S_X11_spoken_4 x1 v_a k q.1 q.2) N) l2_1 l3_2 = some e_5 := hw
      unfold S_X11_spoken_4 at hF
      refine gq_iload_n hC 3 dX11_spoken_4 rfl rfl ?_
      refine gq_iload_n hC 1 dX11_spoken_5 rfl rfl ?_
      refine gq_icmp_ge hC 24 dX11_spoken_6 (by decide) (fun hc_4 => ?_) (fun hc_4 => ?_)
      · have hF := (if_pos hc_4).symm.trans hF
        refine gq_sub [(2, .int l2_1)] [2] rfl ?_
        cases hF
        exact hx0
      · have hF := (if_neg hc_4).symm.trans hF
        refine gq_iload_n hC 2 dX11_spoken_9 rfl rfl ?_
        refine gq_aload_n hC 0 dX11_spoken_10 rfl rfl ?_
        refine gq_iload_n hC 3 dX11_spoken_11 rfl rfl ?_
        refine gq_iconst hC (0 : Int32) dX11_spoken_12 (by decide) ?_
        obtain ⟨r_3, hc_, hF⟩ := ob1_e hF
        refine gq_callVi hC [0, 1] [(h_t_, .inr (11, [.ref h_a, .ref h_fresh, .ref h_kept, .int v_keptMany, .int v_thrown, .ref h_buffer, .int v_buffered, .int v_size, .int v_at, .int v_behind, .int v_kind, .int v_wrong, .int v_wrongAt, .int v_errorAt, .long v_number, .ref h_worthFrom, .ref h_cutsFrom, .ref h_endFrom, .ref h_changes, .ref h_waysFrom, .int v_toCut, .int v_toLeave, .ref h_costAt, .ref h_places, .ref h_isCut, .ref h_written, .int v_writtenMany])), (h_a, .inl (cJ, 499, .inr (.inl v_a)))] [.int l3_2, .int (0 : Int32)] [.int l2_1] (k_X11_of l D cI cJ cZ cO z h_t_ h_a h_fresh h_kept h_buffer h_worthFrom h_cutsFrom h_endFrom h_changes h_waysFrom h_costAt h_places h_isCut h_written l3_2 (0 : Int32) v_keptMany v_thrown v_buffered v_size v_at v_behind v_kind v_wrong v_wrongAt v_errorAt v_number v_toCut v_toLeave v_writtenMany v_a r_3 hc_) gX11_spoken_X11_of rfl ⟨rfl, rfl⟩ hy_X11_of ⟨Nat.le_of_ble_eq_true rfl, Nat.le_of_ble_eq_true rfl⟩ rfl rfl rfl (q0 := 0) rfl rfl rfl (Nat.le_of_ble_eq_true rfl) rfl dX11_spoken_13 rfl rfl ?_
        refine gq_iadd hC dX11_spoken_16 ?_
        refine gq_istore_n hC [(2, .int (l2_1 + r_3)), (0, .ref h_t_), (1, .int x1), (3, .int l3_2)] dX11_spoken_17 rfl (by decide) rfl ?_
        refine gq_iinc hC 3 (l3_2 + (1 : Int32)) [(3, .int (l3_2 + (1 : Int32))), (2, .int (l2_1 + r_3)), (0, .ref h_t_), (1, .int x1)] dX11_spoken_18 rfl rfl (by decide) rfl ?_
        refine gq_goto hC 4 dX11_spoken_21 (by decide) ?_
        refine gq_sub [(0, .ref h_t_), (1, .int x1), (2, .int (l2_1 + r_3)), (3, .int (l3_2 + (1 : Int32)))] [2, 3, 1, 0] rfl ?_
        exact ih (l2_1 + r_3) (l3_2 + (1 : Int32)) hF
  refine gq_sub [(0, .ref h_t_), (1, .int x1), (2, .int (0 : Int32)), (3, .int (0 : Int32))] [2, 3, 1, 0] rfl ?_
  obtain ⟨e_6, hw_, hF⟩ := ob1_e hF
  refine lp4  e_6 ?_ wF (0 : Int32) (0 : Int32) hw_
  refine gq_iload_n hC 0 dX11_spoken_24 rfl rfl ?_
  cases hF
  rw [hQ]
  exact gq_iret hC rfl dX11_spoken_25
theorem hy_X11_wordsOfAll : yX11_wordsOfAll.cls = RX11 ∧ yX11_wordsOfAll.cls ≠ "java/lang/invoke/MethodHandle" ∧ yX11_wordsOfAll.cls ≠ "java/lang/invoke/VarHandle" ∧ (parseMethodDescriptor yX11_wordsOfAll.desc).map (fun d => d.parameters.length) = some 0 := by decide +kernel
set_option maxRecDepth 20000 in
set_option maxHeartbeats 4000000 in
theorem k_X11_wordsOfAll (l : Launch) (D : va_G) (cI cJ cZ cO : ClassId) (z : Nat → Nat)   (h_t_ : Nat) (h_a : Nat) (h_fresh : Nat) (h_kept : Nat) (h_buffer : Nat) (h_worthFrom : Nat) (h_cutsFrom : Nat) (h_endFrom : Nat) (h_changes : Nat) (h_waysFrom : Nat) (h_costAt : Nat) (h_places : Nat) (h_isCut : Nat) (h_written : Nat)  (v_keptMany : Int32) (v_thrown : Int32) (v_buffered : Int32) (v_size : Int32) (v_at : Int32) (v_behind : Int32) (v_kind : Int32) (v_wrong : Int32) (v_wrongAt : Int32) (v_errorAt : Int32) (v_number : Int64) (v_toCut : Int32) (v_toLeave : Int32) (v_writtenMany : Int32) (v_a : Nat → Int64) (r_ : Int32) (hF : F_X11_wordsOfAll v_a = some r_) : Mi l yX11_wordsOfAll wsX11_wordsOfAll (rmD 1) D (gq_ty cI cJ cZ cO) z [.ref h_t_] [(h_t_, .inr (11, [.ref h_a, .ref h_fresh, .ref h_kept, .int v_keptMany, .int v_thrown, .ref h_buffer, .int v_buffered, .int v_size, .int v_at, .int v_behind, .int v_kind, .int v_wrong, .int v_wrongAt, .int v_errorAt, .long v_number, .ref h_worthFrom, .ref h_cutsFrom, .ref h_endFrom, .ref h_changes, .ref h_waysFrom, .int v_toCut, .int v_toLeave, .ref h_costAt, .ref h_places, .ref h_isCut, .ref h_written, .int v_writtenMany])), (h_a, .inl (cJ, 499, .inr (.inl v_a)))] r_ [(h_t_, .inr (11, [.ref h_a, .ref h_fresh, .ref h_kept, .int v_keptMany, .int v_thrown, .ref h_buffer, .int v_buffered, .int v_size, .int v_at, .int v_behind, .int v_kind, .int v_wrong, .int v_wrongAt, .int v_errorAt, .long v_number, .ref h_worthFrom, .ref h_cutsFrom, .ref h_endFrom, .ref h_changes, .ref h_waysFrom, .int v_toCut, .int v_toLeave, .ref h_costAt, .ref h_places, .ref h_isCut, .ref h_written, .int v_writtenMany])), (h_a, .inl (cJ, 499, .inr (.inl v_a)))] 0 0 := by
  refine Mi.of (cc := cX11_wordsOfAll) (maxL := 3) (by decide) rfl (Nat.le_of_ble_eq_true rfl) ⟨Nat.le_refl 0, Nat.le_refl 0⟩ ?_
  intro p e s m args below meth c A hC ha
  obtain ⟨Q, hQ⟩ : ∃ Q, Q = gq_Qi below D A args s r_ [(h_t_, .inr (11, [.ref h_a, .ref h_fresh, .ref h_kept, .int v_keptMany, .int v_thrown, .ref h_buffer, .int v_buffered, .int v_size, .int v_at, .int v_behind, .int v_kind, .int v_wrong, .int v_wrongAt, .int v_errorAt, .long v_number, .ref h_worthFrom, .ref h_cutsFrom, .ref h_endFrom, .ref h_changes, .ref h_waysFrom, .int v_toCut, .int v_toLeave, .ref h_costAt, .ref h_places, .ref h_isCut, .ref h_written, .int v_writtenMany])), (h_a, .inl (cJ, 499, .inr (.inl v_a)))] 0 0 := ⟨_, rfl⟩
  rw [← hQ]
  refine gq_loc [(0, .ref h_t_)] rfl ?_
  unfold F_X11_wordsOfAll at hF
  refine gq_iconst hC (0 : Int32) dX11_wordsOfAll_0 (by decide) ?_
  refine gq_istore_n hC [(1, .int (0 : Int32)), (0, .ref h_t_)] dX11_wordsOfAll_1 rfl (by decide) rfl ?_
  refine gq_iconst hC (0 : Int32) dX11_wordsOfAll_2 (by decide) ?_
  refine gq_istore_n hC [(2, .int (0 : Int32)), (1, .int (0 : Int32)), (0, .ref h_t_)] dX11_wordsOfAll_3 rfl (by decide) rfl ?_
  have lp4 : ∀ (e_6 : Int32), Gx p l e (rmD 1) s m args below meth c D A 3 Q 0 0 27 [(1, .int e_6)] [] [(h_t_, .inr (11, [.ref h_a, .ref h_fresh, .ref h_kept, .int v_keptMany, .int v_thrown, .ref h_buffer, .int v_buffered, .int v_size, .int v_at, .int v_behind, .int v_kind, .int v_wrong, .int v_wrongAt, .int v_errorAt, .long v_number, .ref h_worthFrom, .ref h_cutsFrom, .ref h_endFrom, .ref h_changes, .ref h_waysFrom, .int v_toCut, .int v_toLeave, .ref h_costAt, .ref h_places, .ref h_isCut, .ref h_written, .int v_writtenMany])), (h_a, .inl (cJ, 499, .inr (.inl v_a)))] → ∀ (N : Nat) (l1_1 : Int32) (l2_2 : Int32), wh (fun k q => S_X11_wordsOfAll_4 v_a k q.1 q.2) N (l1_1, l2_2) = some e_6 → Gx p l e (rmD 1) s m args below meth c D A 3 Q 0 0 4 [(0, .ref h_t_), (1, .int l1_1), (2, .int l2_2)] [] [(h_t_, .inr (11, [.ref h_a, .ref h_fresh, .ref h_kept, .int v_keptMany, .int v_thrown, .ref h_buffer, .int v_buffered, .int v_size, .int v_at, .int v_behind, .int v_kind, .int v_wrong, .int v_wrongAt, .int v_errorAt, .long v_number, .ref h_worthFrom, .ref h_cutsFrom, .ref h_endFrom, .ref h_changes, .ref h_waysFrom, .int v_toCut, .int v_toLeave, .ref h_costAt, .ref h_places, .ref h_isCut, .ref h_written, .int v_writtenMany])), (h_a, .inl (cJ, 499, .inr (.inl v_a)))] := by
    intro e_6 hx0 N
    induction N with
    | zero => intro l1_1 l2_2 hw; exact absurd hw (wh_0 _ _ _)
    | succ N ih =>
      intro l1_1 l2_2 hw
      have hF : S_X11_wordsOfAll_4 v_a (wh (fun k q => S_X11_wordsOfAll_4 v_a k q.1 q.2) N) l1_1 l2_2 = some e_6 := hw
      unfold S_X11_wordsOfAll_4 at hF
      refine gq_iload_n hC 2 dX11_wordsOfAll_4 rfl rfl ?_
      refine gq_aload_n hC 0 dX11_wordsOfAll_5 rfl rfl ?_
      obtain ⟨r_3, hc_, hF⟩ := ob1_e hF
      refine gq_callVi hC [0, 1] [(h_t_, .inr (11, [.ref h_a, .ref h_fresh, .ref h_kept, .int v_keptMany, .int v_thrown, .ref h_buffer, .int v_buffered, .int v_size, .int v_at, .int v_behind, .int v_kind, .int v_wrong, .int v_wrongAt, .int v_errorAt, .long v_number, .ref h_worthFrom, .ref h_cutsFrom, .ref h_endFrom, .ref h_changes, .ref h_waysFrom, .int v_toCut, .int v_toLeave, .ref h_costAt, .ref h_places, .ref h_isCut, .ref h_written, .int v_writtenMany])), (h_a, .inl (cJ, 499, .inr (.inl v_a)))] [] [.int l2_2] (k_X11_many l D cI cJ cZ cO z h_t_ h_a h_fresh h_kept h_buffer h_worthFrom h_cutsFrom h_endFrom h_changes h_waysFrom h_costAt h_places h_isCut h_written v_keptMany v_thrown v_buffered v_size v_at v_behind v_kind v_wrong v_wrongAt v_errorAt v_number v_toCut v_toLeave v_writtenMany v_a r_3 hc_) gX11_wordsOfAll_X11_many rfl ⟨rfl, rfl⟩ hy_X11_many ⟨Nat.le_of_ble_eq_true rfl, Nat.le_of_ble_eq_true rfl⟩ rfl rfl rfl (q0 := 0) rfl rfl rfl (Nat.le_of_ble_eq_true rfl) rfl dX11_wordsOfAll_6 rfl rfl ?_
      refine gq_icmp_ge hC 27 dX11_wordsOfAll_9 (by decide) (fun hc_5 => ?_) (fun hc_5 => ?_)
      · have hF := (if_pos hc_5).symm.trans hF
        refine gq_sub [(1, .int l1_1)] [1] rfl ?_
        cases hF
        exact hx0
      · have hF := (if_neg hc_5).symm.trans hF
        refine gq_iload_n hC 1 dX11_wordsOfAll_12 rfl rfl ?_
        refine gq_aload_n hC 0 dX11_wordsOfAll_13 rfl rfl ?_
        refine gq_iload_n hC 2 dX11_wordsOfAll_14 rfl rfl ?_
        refine gq_iconst hC (2 : Int32) dX11_wordsOfAll_15 (by decide) ?_
        obtain ⟨r_4, hc_, hF⟩ := ob1_e hF
        refine gq_callVi hC [0, 1] [(h_t_, .inr (11, [.ref h_a, .ref h_fresh, .ref h_kept, .int v_keptMany, .int v_thrown, .ref h_buffer, .int v_buffered, .int v_size, .int v_at, .int v_behind, .int v_kind, .int v_wrong, .int v_wrongAt, .int v_errorAt, .long v_number, .ref h_worthFrom, .ref h_cutsFrom, .ref h_endFrom, .ref h_changes, .ref h_waysFrom, .int v_toCut, .int v_toLeave, .ref h_costAt, .ref h_places, .ref h_isCut, .ref h_written, .int v_writtenMany])), (h_a, .inl (cJ, 499, .inr (.inl v_a)))] [.int l2_2, .int (2 : Int32)] [.int l1_1] (k_X11_of l D cI cJ cZ cO z h_t_ h_a h_fresh h_kept h_buffer h_worthFrom h_cutsFrom h_endFrom h_changes h_waysFrom h_costAt h_places h_isCut h_written l2_2 (2 : Int32) v_keptMany v_thrown v_buffered v_size v_at v_behind v_kind v_wrong v_wrongAt v_errorAt v_number v_toCut v_toLeave v_writtenMany v_a r_4 hc_) gX11_wordsOfAll_X11_of rfl ⟨rfl, rfl⟩ hy_X11_of ⟨Nat.le_of_ble_eq_true rfl, Nat.le_of_ble_eq_true rfl⟩ rfl rfl rfl (q0 := 0) rfl rfl rfl (Nat.le_of_ble_eq_true rfl) rfl dX11_wordsOfAll_16 rfl rfl ?_
        refine gq_iadd hC dX11_wordsOfAll_19 ?_
        refine gq_istore_n hC [(1, .int (l1_1 + r_4)), (0, .ref h_t_), (2, .int l2_2)] dX11_wordsOfAll_20 rfl (by decide) rfl ?_
        refine gq_iinc hC 2 (l2_2 + (1 : Int32)) [(2, .int (l2_2 + (1 : Int32))), (1, .int (l1_1 + r_4)), (0, .ref h_t_)] dX11_wordsOfAll_21 rfl rfl (by decide) rfl ?_
        refine gq_goto hC 4 dX11_wordsOfAll_24 (by decide) ?_
        refine gq_sub [(0, .ref h_t_), (1, .int (l1_1 + r_4)), (2, .int (l2_2 + (1 : Int32)))] [2, 1, 0] rfl ?_
        exact ih (l1_1 + r_4) (l2_2 + (1 : Int32)) hF
  refine gq_sub [(0, .ref h_t_), (1, .int (0 : Int32)), (2, .int (0 : Int32))] [2, 1, 0] rfl ?_
  obtain ⟨e_7, hw_, hF⟩ := ob1_e hF
  refine lp4  e_7 ?_ wF (0 : Int32) (0 : Int32) hw_
  refine gq_iload_n hC 0 dX11_wordsOfAll_27 rfl rfl ?_
  cases hF
  rw [hQ]
  exact gq_iret hC rfl dX11_wordsOfAll_28
theorem hy_X11_isLong : yX11_isLong.cls = RX11 ∧ yX11_isLong.cls ≠ "java/lang/invoke/MethodHandle" ∧ yX11_isLong.cls ≠ "java/lang/invoke/VarHandle" ∧ (parseMethodDescriptor yX11_isLong.desc).map (fun d => d.parameters.length) = some 1 := by decide +kernel
set_option maxRecDepth 20000 in
set_option maxHeartbeats 4000000 in
theorem k_X11_isLong (l : Launch) (D : va_G) (cI cJ cZ cO : ClassId) (z : Nat → Nat)   (h_t_ : Nat) (h_a : Nat) (h_fresh : Nat) (h_kept : Nat) (h_buffer : Nat) (h_worthFrom : Nat) (h_cutsFrom : Nat) (h_endFrom : Nat) (h_changes : Nat) (h_waysFrom : Nat) (h_costAt : Nat) (h_places : Nat) (h_isCut : Nat) (h_written : Nat) (x1 : Int32) (v_keptMany : Int32) (v_thrown : Int32) (v_buffered : Int32) (v_size : Int32) (v_at : Int32) (v_behind : Int32) (v_kind : Int32) (v_wrong : Int32) (v_wrongAt : Int32) (v_errorAt : Int32) (v_number : Int64) (v_toCut : Int32) (v_toLeave : Int32) (v_writtenMany : Int32) (v_a : Nat → Int64) (r_ : Int32) (hF : F_X11_isLong x1 v_a = some r_) : Mi l yX11_isLong wsX11_isLong (rmD 1) D (gq_ty cI cJ cZ cO) z [.ref h_t_, .int x1] [(h_t_, .inr (11, [.ref h_a, .ref h_fresh, .ref h_kept, .int v_keptMany, .int v_thrown, .ref h_buffer, .int v_buffered, .int v_size, .int v_at, .int v_behind, .int v_kind, .int v_wrong, .int v_wrongAt, .int v_errorAt, .long v_number, .ref h_worthFrom, .ref h_cutsFrom, .ref h_endFrom, .ref h_changes, .ref h_waysFrom, .int v_toCut, .int v_toLeave, .ref h_costAt, .ref h_places, .ref h_isCut, .ref h_written, .int v_writtenMany])), (h_a, .inl (cJ, 499, .inr (.inl v_a)))] r_ [(h_t_, .inr (11, [.ref h_a, .ref h_fresh, .ref h_kept, .int v_keptMany, .int v_thrown, .ref h_buffer, .int v_buffered, .int v_size, .int v_at, .int v_behind, .int v_kind, .int v_wrong, .int v_wrongAt, .int v_errorAt, .long v_number, .ref h_worthFrom, .ref h_cutsFrom, .ref h_endFrom, .ref h_changes, .ref h_waysFrom, .int v_toCut, .int v_toLeave, .ref h_costAt, .ref h_places, .ref h_isCut, .ref h_written, .int v_writtenMany])), (h_a, .inl (cJ, 499, .inr (.inl v_a)))] 0 0 := by
  refine Mi.of (cc := cX11_isLong) (maxL := 2) (by decide) rfl (Nat.le_of_ble_eq_true rfl) ⟨Nat.le_refl 0, Nat.le_refl 0⟩ ?_
  intro p e s m args below meth c A hC ha
  have hin_X11 : ∀ w ∈ wsX110, w ∈ wsX11_isLong := by decide +kernel
  have hw_9 : Cond.fieldLink RX11 9 (TX11 0).1 (TX11 0).2.1 (TX11 0).2.2.1 ∈ wsX11_isLong := by decide +kernel
  obtain ⟨Q, hQ⟩ : ∃ Q, Q = gq_Qi below D A args s r_ [(h_t_, .inr (11, [.ref h_a, .ref h_fresh, .ref h_kept, .int v_keptMany, .int v_thrown, .ref h_buffer, .int v_buffered, .int v_size, .int v_at, .int v_behind, .int v_kind, .int v_wrong, .int v_wrongAt, .int v_errorAt, .long v_number, .ref h_worthFrom, .ref h_cutsFrom, .ref h_endFrom, .ref h_changes, .ref h_waysFrom, .int v_toCut, .int v_toLeave, .ref h_costAt, .ref h_places, .ref h_isCut, .ref h_written, .int v_writtenMany])), (h_a, .inl (cJ, 499, .inr (.inl v_a)))] 0 0 := ⟨_, rfl⟩
  rw [← hQ]
  refine gq_loc [(0, .ref h_t_), (1, .int x1)] rfl ?_
  unfold F_X11_isLong at hF
  refine gq_aload_n hC 0 dX11_isLong_0 rfl rfl ?_
  refine gq_iload_n hC 1 dX11_isLong_1 rfl rfl ?_
  refine gq_iconst hC (1 : Int32) dX11_isLong_2 (by decide) ?_
  obtain ⟨r_1, hc_, hF⟩ := ob1_e hF
  refine gq_callVi hC [0, 1] [(h_t_, .inr (11, [.ref h_a, .ref h_fresh, .ref h_kept, .int v_keptMany, .int v_thrown, .ref h_buffer, .int v_buffered, .int v_size, .int v_at, .int v_behind, .int v_kind, .int v_wrong, .int v_wrongAt, .int v_errorAt, .long v_number, .ref h_worthFrom, .ref h_cutsFrom, .ref h_endFrom, .ref h_changes, .ref h_waysFrom, .int v_toCut, .int v_toLeave, .ref h_costAt, .ref h_places, .ref h_isCut, .ref h_written, .int v_writtenMany])), (h_a, .inl (cJ, 499, .inr (.inl v_a)))] [.int x1, .int (1 : Int32)] [] (k_X11_of l D cI cJ cZ cO z h_t_ h_a h_fresh h_kept h_buffer h_worthFrom h_cutsFrom h_endFrom h_changes h_waysFrom h_costAt h_places h_isCut h_written x1 (1 : Int32) v_keptMany v_thrown v_buffered v_size v_at v_behind v_kind v_wrong v_wrongAt v_errorAt v_number v_toCut v_toLeave v_writtenMany v_a r_1 hc_) gX11_isLong_X11_of rfl ⟨rfl, rfl⟩ hy_X11_of ⟨Nat.le_of_ble_eq_true rfl, Nat.le_of_ble_eq_true rfl⟩ rfl rfl rfl (q0 := 0) rfl rfl rfl (Nat.le_of_ble_eq_true rfl) rfl dX11_isLong_3 rfl rfl ?_
  refine gq_i2l hC dX11_isLong_6 ?_
  refine gq_aload_n hC 0 dX11_isLong_7 rfl rfl ?_
  refine gq_get hC (kf := 0) 0 hin_X11 rfl rfl (by decide) hw_9 rfl dX11_isLong_8 ?_
  refine gq_iconst hC (4 : Int32) dX11_isLong_11 (by decide) ?_
  obtain ⟨hi_2, hF⟩ := gi_e hF
  refine gq_lald hC 1 1 rfl rfl hi_2 dX11_isLong_12 ?_
  refine gq_lcmp hC dX11_isLong_13 ?_
  refine gq_if_lt hC 21 dX11_isLong_14 (by decide) (fun hc_3 => ?_) (fun hc_3 => ?_)
  · have hF := (if_pos hc_3).symm.trans hF
    refine gq_iconst hC (0 : Int32) dX11_isLong_21 (by decide) ?_
    cases hF
    rw [hQ]
    exact gq_iret hC rfl dX11_isLong_22
  · have hF := (if_neg hc_3).symm.trans hF
    refine gq_iconst hC (1 : Int32) dX11_isLong_17 (by decide) ?_
    refine gq_goto hC 22 dX11_isLong_18 (by decide) ?_
    cases hF
    rw [hQ]
    exact gq_iret hC rfl dX11_isLong_22
theorem hy_X11_longPauses : yX11_longPauses.cls = RX11 ∧ yX11_longPauses.cls ≠ "java/lang/invoke/MethodHandle" ∧ yX11_longPauses.cls ≠ "java/lang/invoke/VarHandle" ∧ (parseMethodDescriptor yX11_longPauses.desc).map (fun d => d.parameters.length) = some 0 := by decide +kernel
set_option maxRecDepth 20000 in
set_option maxHeartbeats 4000000 in
theorem k_X11_longPauses (l : Launch) (D : va_G) (cI cJ cZ cO : ClassId) (z : Nat → Nat)   (h_t_ : Nat) (h_a : Nat) (h_fresh : Nat) (h_kept : Nat) (h_buffer : Nat) (h_worthFrom : Nat) (h_cutsFrom : Nat) (h_endFrom : Nat) (h_changes : Nat) (h_waysFrom : Nat) (h_costAt : Nat) (h_places : Nat) (h_isCut : Nat) (h_written : Nat)  (v_keptMany : Int32) (v_thrown : Int32) (v_buffered : Int32) (v_size : Int32) (v_at : Int32) (v_behind : Int32) (v_kind : Int32) (v_wrong : Int32) (v_wrongAt : Int32) (v_errorAt : Int32) (v_number : Int64) (v_toCut : Int32) (v_toLeave : Int32) (v_writtenMany : Int32) (v_a : Nat → Int64) (r_ : Int32) (hF : F_X11_longPauses v_a = some r_) : Mi l yX11_longPauses wsX11_longPauses (rmD 2) D (gq_ty cI cJ cZ cO) z [.ref h_t_] [(h_t_, .inr (11, [.ref h_a, .ref h_fresh, .ref h_kept, .int v_keptMany, .int v_thrown, .ref h_buffer, .int v_buffered, .int v_size, .int v_at, .int v_behind, .int v_kind, .int v_wrong, .int v_wrongAt, .int v_errorAt, .long v_number, .ref h_worthFrom, .ref h_cutsFrom, .ref h_endFrom, .ref h_changes, .ref h_waysFrom, .int v_toCut, .int v_toLeave, .ref h_costAt, .ref h_places, .ref h_isCut, .ref h_written, .int v_writtenMany])), (h_a, .inl (cJ, 499, .inr (.inl v_a)))] r_ [(h_t_, .inr (11, [.ref h_a, .ref h_fresh, .ref h_kept, .int v_keptMany, .int v_thrown, .ref h_buffer, .int v_buffered, .int v_size, .int v_at, .int v_behind, .int v_kind, .int v_wrong, .int v_wrongAt, .int v_errorAt, .long v_number, .ref h_worthFrom, .ref h_cutsFrom, .ref h_endFrom, .ref h_changes, .ref h_waysFrom, .int v_toCut, .int v_toLeave, .ref h_costAt, .ref h_places, .ref h_isCut, .ref h_written, .int v_writtenMany])), (h_a, .inl (cJ, 499, .inr (.inl v_a)))] 0 0 := by
  refine Mi.of (cc := cX11_longPauses) (maxL := 3) (by decide) rfl (Nat.le_of_ble_eq_true rfl) ⟨Nat.le_refl 0, Nat.le_refl 0⟩ ?_
  intro p e s m args below meth c A hC ha
  obtain ⟨Q, hQ⟩ : ∃ Q, Q = gq_Qi below D A args s r_ [(h_t_, .inr (11, [.ref h_a, .ref h_fresh, .ref h_kept, .int v_keptMany, .int v_thrown, .ref h_buffer, .int v_buffered, .int v_size, .int v_at, .int v_behind, .int v_kind, .int v_wrong, .int v_wrongAt, .int v_errorAt, .long v_number, .ref h_worthFrom, .ref h_cutsFrom, .ref h_endFrom, .ref h_changes, .ref h_waysFrom, .int v_toCut, .int v_toLeave, .ref h_costAt, .ref h_places, .ref h_isCut, .ref h_written, .int v_writtenMany])), (h_a, .inl (cJ, 499, .inr (.inl v_a)))] 0 0 := ⟨_, rfl⟩
  rw [← hQ]
  refine gq_loc [(0, .ref h_t_)] rfl ?_
  unfold F_X11_longPauses at hF
  refine gq_iconst hC (0 : Int32) dX11_longPauses_0 (by decide) ?_
  refine gq_istore_n hC [(1, .int (0 : Int32)), (0, .ref h_t_)] dX11_longPauses_1 rfl (by decide) rfl ?_
  refine gq_iconst hC (0 : Int32) dX11_longPauses_2 (by decide) ?_
  refine gq_istore_n hC [(2, .int (0 : Int32)), (1, .int (0 : Int32)), (0, .ref h_t_)] dX11_longPauses_3 rfl (by decide) rfl ?_
  have lp4 : ∀ (e_7 : Int32), Gx p l e (rmD 2) s m args below meth c D A 3 Q 0 0 36 [(1, .int e_7)] [] [(h_t_, .inr (11, [.ref h_a, .ref h_fresh, .ref h_kept, .int v_keptMany, .int v_thrown, .ref h_buffer, .int v_buffered, .int v_size, .int v_at, .int v_behind, .int v_kind, .int v_wrong, .int v_wrongAt, .int v_errorAt, .long v_number, .ref h_worthFrom, .ref h_cutsFrom, .ref h_endFrom, .ref h_changes, .ref h_waysFrom, .int v_toCut, .int v_toLeave, .ref h_costAt, .ref h_places, .ref h_isCut, .ref h_written, .int v_writtenMany])), (h_a, .inl (cJ, 499, .inr (.inl v_a)))] → ∀ (N : Nat) (l1_1 : Int32) (l2_2 : Int32), wh (fun k q => S_X11_longPauses_4 v_a k q.1 q.2) N (l1_1, l2_2) = some e_7 → Gx p l e (rmD 2) s m args below meth c D A 3 Q 0 0 4 [(0, .ref h_t_), (1, .int l1_1), (2, .int l2_2)] [] [(h_t_, .inr (11, [.ref h_a, .ref h_fresh, .ref h_kept, .int v_keptMany, .int v_thrown, .ref h_buffer, .int v_buffered, .int v_size, .int v_at, .int v_behind, .int v_kind, .int v_wrong, .int v_wrongAt, .int v_errorAt, .long v_number, .ref h_worthFrom, .ref h_cutsFrom, .ref h_endFrom, .ref h_changes, .ref h_waysFrom, .int v_toCut, .int v_toLeave, .ref h_costAt, .ref h_places, .ref h_isCut, .ref h_written, .int v_writtenMany])), (h_a, .inl (cJ, 499, .inr (.inl v_a)))] := by
    intro e_7 hx0 N
    induction N with
    | zero => intro l1_1 l2_2 hw; exact absurd hw (wh_0 _ _ _)
    | succ N ih =>
      intro l1_1 l2_2 hw
      have hF : S_X11_longPauses_4 v_a (wh (fun k q => S_X11_longPauses_4 v_a k q.1 q.2) N) l1_1 l2_2 = some e_7 := hw
      unfold S_X11_longPauses_4 at hF
      refine gq_iload_n hC 2 dX11_longPauses_4 rfl rfl ?_
      refine gq_aload_n hC 0 dX11_longPauses_5 rfl rfl ?_
      obtain ⟨r_3, hc_, hF⟩ := ob1_e hF
      refine gq_callVi hC [0, 1] [(h_t_, .inr (11, [.ref h_a, .ref h_fresh, .ref h_kept, .int v_keptMany, .int v_thrown, .ref h_buffer, .int v_buffered, .int v_size, .int v_at, .int v_behind, .int v_kind, .int v_wrong, .int v_wrongAt, .int v_errorAt, .long v_number, .ref h_worthFrom, .ref h_cutsFrom, .ref h_endFrom, .ref h_changes, .ref h_waysFrom, .int v_toCut, .int v_toLeave, .ref h_costAt, .ref h_places, .ref h_isCut, .ref h_written, .int v_writtenMany])), (h_a, .inl (cJ, 499, .inr (.inl v_a)))] [] [.int l2_2] (k_X11_many l D cI cJ cZ cO z h_t_ h_a h_fresh h_kept h_buffer h_worthFrom h_cutsFrom h_endFrom h_changes h_waysFrom h_costAt h_places h_isCut h_written v_keptMany v_thrown v_buffered v_size v_at v_behind v_kind v_wrong v_wrongAt v_errorAt v_number v_toCut v_toLeave v_writtenMany v_a r_3 hc_) gX11_longPauses_X11_many rfl ⟨rfl, rfl⟩ hy_X11_many ⟨Nat.le_of_ble_eq_true rfl, Nat.le_of_ble_eq_true rfl⟩ rfl rfl rfl (q0 := 0) rfl rfl rfl (Nat.le_of_ble_eq_true rfl) rfl dX11_longPauses_6 rfl rfl ?_
      refine gq_iconst hC (1 : Int32) dX11_longPauses_9 (by decide) ?_
      refine gq_isub hC dX11_longPauses_10 ?_
      refine gq_icmp_ge hC 36 dX11_longPauses_11 (by decide) (fun hc_6 => ?_) (fun hc_6 => ?_)
      · have hF := (if_pos hc_6).symm.trans hF
        refine gq_sub [(1, .int l1_1)] [1] rfl ?_
        cases hF
        exact hx0
      · have hF := (if_neg hc_6).symm.trans hF
        refine gq_iload_n hC 1 dX11_longPauses_14 rfl rfl ?_
        refine gq_aload_n hC 0 dX11_longPauses_15 rfl rfl ?_
        refine gq_iload_n hC 2 dX11_longPauses_16 rfl rfl ?_
        obtain ⟨r_4, hc_, hF⟩ := ob1_e hF
        refine gq_callVi hC [0, 1] [(h_t_, .inr (11, [.ref h_a, .ref h_fresh, .ref h_kept, .int v_keptMany, .int v_thrown, .ref h_buffer, .int v_buffered, .int v_size, .int v_at, .int v_behind, .int v_kind, .int v_wrong, .int v_wrongAt, .int v_errorAt, .long v_number, .ref h_worthFrom, .ref h_cutsFrom, .ref h_endFrom, .ref h_changes, .ref h_waysFrom, .int v_toCut, .int v_toLeave, .ref h_costAt, .ref h_places, .ref h_isCut, .ref h_written, .int v_writtenMany])), (h_a, .inl (cJ, 499, .inr (.inl v_a)))] [.int l2_2] [.int l1_1] (k_X11_isLong l D cI cJ cZ cO z h_t_ h_a h_fresh h_kept h_buffer h_worthFrom h_cutsFrom h_endFrom h_changes h_waysFrom h_costAt h_places h_isCut h_written l2_2 v_keptMany v_thrown v_buffered v_size v_at v_behind v_kind v_wrong v_wrongAt v_errorAt v_number v_toCut v_toLeave v_writtenMany v_a r_4 hc_) gX11_longPauses_X11_isLong rfl ⟨rfl, rfl⟩ hy_X11_isLong ⟨Nat.le_of_ble_eq_true rfl, Nat.le_of_ble_eq_true rfl⟩ rfl rfl rfl (q0 := 0) rfl rfl rfl (Nat.le_of_ble_eq_true rfl) rfl dX11_longPauses_17 rfl rfl ?_
        refine gq_if_eq hC 27 dX11_longPauses_20 (by decide) (fun hc_5 => ?_) (fun hc_5 => ?_)
        · have hF := (if_pos hc_5).symm.trans hF
          refine gq_iconst hC (0 : Int32) dX11_longPauses_27 (by decide) ?_
          refine gq_iadd hC dX11_longPauses_28 ?_
          refine gq_istore_n hC [(1, .int (l1_1 + (0 : Int32))), (0, .ref h_t_), (2, .int l2_2)] dX11_longPauses_29 rfl (by decide) rfl ?_
          refine gq_iinc hC 2 (l2_2 + (1 : Int32)) [(2, .int (l2_2 + (1 : Int32))), (1, .int (l1_1 + (0 : Int32))), (0, .ref h_t_)] dX11_longPauses_30 rfl rfl (by decide) rfl ?_
          refine gq_goto hC 4 dX11_longPauses_33 (by decide) ?_
          refine gq_sub [(0, .ref h_t_), (1, .int (l1_1 + (0 : Int32))), (2, .int (l2_2 + (1 : Int32)))] [2, 1, 0] rfl ?_
          exact ih (l1_1 + (0 : Int32)) (l2_2 + (1 : Int32)) hF
        · have hF := (if_neg hc_5).symm.trans hF
          refine gq_iconst hC (1 : Int32) dX11_longPauses_23 (by decide) ?_
          refine gq_goto hC 28 dX11_longPauses_24 (by decide) ?_
          refine gq_iadd hC dX11_longPauses_28 ?_
          refine gq_istore_n hC [(1, .int (l1_1 + (1 : Int32))), (0, .ref h_t_), (2, .int l2_2)] dX11_longPauses_29 rfl (by decide) rfl ?_
          refine gq_iinc hC 2 (l2_2 + (1 : Int32)) [(2, .int (l2_2 + (1 : Int32))), (1, .int (l1_1 + (1 : Int32))), (0, .ref h_t_)] dX11_longPauses_30 rfl rfl (by decide) rfl ?_
          refine gq_goto hC 4 dX11_longPauses_33 (by decide) ?_
          refine gq_sub [(0, .ref h_t_), (1, .int (l1_1 + (1 : Int32))), (2, .int (l2_2 + (1 : Int32)))] [2, 1, 0] rfl ?_
          exact ih (l1_1 + (1 : Int32)) (l2_2 + (1 : Int32)) hF
  refine gq_sub [(0, .ref h_t_), (1, .int (0 : Int32)), (2, .int (0 : Int32))] [2, 1, 0] rfl ?_
  obtain ⟨e_8, hw_, hF⟩ := ob1_e hF
  refine lp4  e_8 ?_ wF (0 : Int32) (0 : Int32) hw_
  refine gq_iload_n hC 0 dX11_longPauses_36 rfl rfl ?_
  cases hF
  rw [hQ]
  exact gq_iret hC rfl dX11_longPauses_37
theorem hy_X11_count : yX11_count.cls = RX11 ∧ yX11_count.cls ≠ "java/lang/invoke/MethodHandle" ∧ yX11_count.cls ≠ "java/lang/invoke/VarHandle" ∧ (parseMethodDescriptor yX11_count.desc).map (fun d => d.parameters.length) = some 1 := by decide +kernel
set_option maxRecDepth 20000 in
set_option maxHeartbeats 4000000 in
theorem k_X11_count (l : Launch) (D : va_G) (cI cJ cZ cO : ClassId) (z : Nat → Nat)   (h_t_ : Nat) (h_a : Nat) (h_fresh : Nat) (h_kept : Nat) (h_buffer : Nat) (h_worthFrom : Nat) (h_cutsFrom : Nat) (h_endFrom : Nat) (h_changes : Nat) (h_waysFrom : Nat) (h_costAt : Nat) (h_places : Nat) (h_isCut : Nat) (h_written : Nat) (x1 : Int32) (v_keptMany : Int32) (v_thrown : Int32) (v_buffered : Int32) (v_size : Int32) (v_at : Int32) (v_behind : Int32) (v_kind : Int32) (v_wrong : Int32) (v_wrongAt : Int32) (v_errorAt : Int32) (v_number : Int64) (v_toCut : Int32) (v_toLeave : Int32) (v_writtenMany : Int32) (v_a : Nat → Int64) (r_ : Int32) (w_thrown : Int32) (hF : F_X11_count x1 v_thrown v_a = some (r_, w_thrown)) : Mi l yX11_count wsX11_count (rmD 3) D (gq_ty cI cJ cZ cO) z [.ref h_t_, .int x1] [(h_t_, .inr (11, [.ref h_a, .ref h_fresh, .ref h_kept, .int v_keptMany, .int v_thrown, .ref h_buffer, .int v_buffered, .int v_size, .int v_at, .int v_behind, .int v_kind, .int v_wrong, .int v_wrongAt, .int v_errorAt, .long v_number, .ref h_worthFrom, .ref h_cutsFrom, .ref h_endFrom, .ref h_changes, .ref h_waysFrom, .int v_toCut, .int v_toLeave, .ref h_costAt, .ref h_places, .ref h_isCut, .ref h_written, .int v_writtenMany])), (h_a, .inl (cJ, 499, .inr (.inl v_a)))] r_ [(h_t_, .inr (11, [.ref h_a, .ref h_fresh, .ref h_kept, .int v_keptMany, .int w_thrown, .ref h_buffer, .int v_buffered, .int v_size, .int v_at, .int v_behind, .int v_kind, .int v_wrong, .int v_wrongAt, .int v_errorAt, .long v_number, .ref h_worthFrom, .ref h_cutsFrom, .ref h_endFrom, .ref h_changes, .ref h_waysFrom, .int v_toCut, .int v_toLeave, .ref h_costAt, .ref h_places, .ref h_isCut, .ref h_written, .int v_writtenMany])), (h_a, .inl (cJ, 499, .inr (.inl v_a)))] 0 0 := by
  refine Mi.of (cc := cX11_count) (maxL := 2) (by decide) rfl (Nat.le_of_ble_eq_true rfl) ⟨Nat.le_refl 0, Nat.le_refl 0⟩ ?_
  intro p e s m args below meth c A hC ha
  have hin_X11 : ∀ w ∈ wsX110, w ∈ wsX11_count := by decide +kernel
  have hw_9 : Cond.fieldLink RX11 9 (TX11 0).1 (TX11 0).2.1 (TX11 0).2.2.1 ∈ wsX11_count := by decide +kernel
  have hw_79 : Cond.fieldLink RX11 79 (TX11 4).1 (TX11 4).2.1 (TX11 4).2.2.1 ∈ wsX11_count := by decide +kernel
  obtain ⟨Q, hQ⟩ : ∃ Q, Q = gq_Qi below D A args s r_ [(h_t_, .inr (11, [.ref h_a, .ref h_fresh, .ref h_kept, .int v_keptMany, .int w_thrown, .ref h_buffer, .int v_buffered, .int v_size, .int v_at, .int v_behind, .int v_kind, .int v_wrong, .int v_wrongAt, .int v_errorAt, .long v_number, .ref h_worthFrom, .ref h_cutsFrom, .ref h_endFrom, .ref h_changes, .ref h_waysFrom, .int v_toCut, .int v_toLeave, .ref h_costAt, .ref h_places, .ref h_isCut, .ref h_written, .int v_writtenMany])), (h_a, .inl (cJ, 499, .inr (.inl v_a)))] 0 0 := ⟨_, rfl⟩
  rw [← hQ]
  refine gq_loc [(0, .ref h_t_), (1, .int x1)] rfl ?_
  have jb18 : ∀ (st_1 : Int32) (v_thrown_2 : Int32), F_X11_count_b18 x1 st_1 v_thrown_2 v_a = some (r_, w_thrown) → Gx p l e (rmD 3) s m args below meth c D A 2 Q 0 0 18 [(0, .ref h_t_), (1, .int x1)] [.int st_1, .ref h_t_] [(h_t_, .inr (11, [.ref h_a, .ref h_fresh, .ref h_kept, .int v_keptMany, .int v_thrown_2, .ref h_buffer, .int v_buffered, .int v_size, .int v_at, .int v_behind, .int v_kind, .int v_wrong, .int v_wrongAt, .int v_errorAt, .long v_number, .ref h_worthFrom, .ref h_cutsFrom, .ref h_endFrom, .ref h_changes, .ref h_waysFrom, .int v_toCut, .int v_toLeave, .ref h_costAt, .ref h_places, .ref h_isCut, .ref h_written, .int v_writtenMany])), (h_a, .inl (cJ, 499, .inr (.inl v_a)))] := by
    intro st_1 v_thrown_2 hF
    unfold F_X11_count_b18 at hF
    refine gq_put1 hC (kf := 4) 0 [(h_t_, .inr (11, [.ref h_a, .ref h_fresh, .ref h_kept, .int v_keptMany, .int st_1, .ref h_buffer, .int v_buffered, .int v_size, .int v_at, .int v_behind, .int v_kind, .int v_wrong, .int v_wrongAt, .int v_errorAt, .long v_number, .ref h_worthFrom, .ref h_cutsFrom, .ref h_endFrom, .ref h_changes, .ref h_waysFrom, .int v_toCut, .int v_toLeave, .ref h_costAt, .ref h_places, .ref h_isCut, .ref h_written, .int v_writtenMany])), (h_a, .inl (cJ, 499, .inr (.inl v_a)))] tyX11 tyX11_ok nmX11 hin_X11 rfl rfl (by decide) hw_79 rfl rfl rfl (Nat.le_of_ble_eq_true rfl) dX11_count_18 rfl ?_
    refine gq_aload_n hC 0 dX11_count_21 rfl rfl ?_
    refine gq_get hC (kf := 4) 0 hin_X11 rfl rfl (by decide) hw_79 rfl dX11_count_22 ?_
    refine gq_if_le hC 30 dX11_count_25 (by decide) (fun hc_11 => ?_) (fun hc_11 => ?_)
    · have hF := (if_pos hc_11).symm.trans hF
      refine gq_iload_n hC 1 dX11_count_30 rfl rfl ?_
      by_cases hn_4 : x1 = 3
      · have hF := (if_pos hn_4).symm.trans hF
        refine gq_tblIn hC (off := 25) (v := 3) 56 dX11_count_31 hn_4 (by decide) (by decide) (by decide) (by decide) ?_
        refine gq_aload_n hC 0 dX11_count_56 rfl rfl ?_
        refine gq_aload_n hC 0 dX11_count_57 rfl rfl ?_
        obtain ⟨r_9, hc_, hF⟩ := ob1_e hF
        refine gq_callVi hC [0, 1] [(h_t_, .inr (11, [.ref h_a, .ref h_fresh, .ref h_kept, .int v_keptMany, .int st_1, .ref h_buffer, .int v_buffered, .int v_size, .int v_at, .int v_behind, .int v_kind, .int v_wrong, .int v_wrongAt, .int v_errorAt, .long v_number, .ref h_worthFrom, .ref h_cutsFrom, .ref h_endFrom, .ref h_changes, .ref h_waysFrom, .int v_toCut, .int v_toLeave, .ref h_costAt, .ref h_places, .ref h_isCut, .ref h_written, .int v_writtenMany])), (h_a, .inl (cJ, 499, .inr (.inl v_a)))] [] [.ref h_t_] (k_X11_many l D cI cJ cZ cO z h_t_ h_a h_fresh h_kept h_buffer h_worthFrom h_cutsFrom h_endFrom h_changes h_waysFrom h_costAt h_places h_isCut h_written v_keptMany st_1 v_buffered v_size v_at v_behind v_kind v_wrong v_wrongAt v_errorAt v_number v_toCut v_toLeave v_writtenMany v_a r_9 hc_) gX11_count_X11_many rfl ⟨rfl, rfl⟩ hy_X11_many ⟨Nat.le_of_ble_eq_true rfl, Nat.le_of_ble_eq_true rfl⟩ rfl rfl rfl (q0 := 0) rfl rfl rfl (Nat.le_of_ble_eq_true rfl) rfl dX11_count_58 rfl rfl ?_
        obtain ⟨r_10, hc_, hF⟩ := ob1_e hF
        refine gq_callVi hC [0, 1] [(h_t_, .inr (11, [.ref h_a, .ref h_fresh, .ref h_kept, .int v_keptMany, .int st_1, .ref h_buffer, .int v_buffered, .int v_size, .int v_at, .int v_behind, .int v_kind, .int v_wrong, .int v_wrongAt, .int v_errorAt, .long v_number, .ref h_worthFrom, .ref h_cutsFrom, .ref h_endFrom, .ref h_changes, .ref h_waysFrom, .int v_toCut, .int v_toLeave, .ref h_costAt, .ref h_places, .ref h_isCut, .ref h_written, .int v_writtenMany])), (h_a, .inl (cJ, 499, .inr (.inl v_a)))] [.int r_9] [] (k_X11_spoken l D cI cJ cZ cO z h_t_ h_a h_fresh h_kept h_buffer h_worthFrom h_cutsFrom h_endFrom h_changes h_waysFrom h_costAt h_places h_isCut h_written r_9 v_keptMany st_1 v_buffered v_size v_at v_behind v_kind v_wrong v_wrongAt v_errorAt v_number v_toCut v_toLeave v_writtenMany v_a r_10 hc_) gX11_count_X11_spoken rfl ⟨rfl, rfl⟩ hy_X11_spoken ⟨Nat.le_of_ble_eq_true rfl, Nat.le_of_ble_eq_true rfl⟩ rfl rfl rfl (q0 := 0) rfl rfl rfl (Nat.le_of_ble_eq_true rfl) rfl dX11_count_61 rfl rfl ?_
        cases hF
        rw [hQ]
        exact gq_iret hC rfl dX11_count_64
      · have hF := (if_neg hn_4).symm.trans hF
        by_cases hn_5 : x1 = 4
        · have hF := (if_pos hn_5).symm.trans hF
          refine gq_tblIn hC (off := 34) (v := 4) 65 dX11_count_31 hn_5 (by decide) (by decide) (by decide) (by decide) ?_
          refine gq_aload_n hC 0 dX11_count_65 rfl rfl ?_
          obtain ⟨r_8, hc_, hF⟩ := ob1_e hF
          refine gq_callVi hC [0, 1] [(h_t_, .inr (11, [.ref h_a, .ref h_fresh, .ref h_kept, .int v_keptMany, .int st_1, .ref h_buffer, .int v_buffered, .int v_size, .int v_at, .int v_behind, .int v_kind, .int v_wrong, .int v_wrongAt, .int v_errorAt, .long v_number, .ref h_worthFrom, .ref h_cutsFrom, .ref h_endFrom, .ref h_changes, .ref h_waysFrom, .int v_toCut, .int v_toLeave, .ref h_costAt, .ref h_places, .ref h_isCut, .ref h_written, .int v_writtenMany])), (h_a, .inl (cJ, 499, .inr (.inl v_a)))] [] [] (k_X11_wordsOfAll l D cI cJ cZ cO z h_t_ h_a h_fresh h_kept h_buffer h_worthFrom h_cutsFrom h_endFrom h_changes h_waysFrom h_costAt h_places h_isCut h_written v_keptMany st_1 v_buffered v_size v_at v_behind v_kind v_wrong v_wrongAt v_errorAt v_number v_toCut v_toLeave v_writtenMany v_a r_8 hc_) gX11_count_X11_wordsOfAll rfl ⟨rfl, rfl⟩ hy_X11_wordsOfAll ⟨Nat.le_of_ble_eq_true rfl, Nat.le_of_ble_eq_true rfl⟩ rfl rfl rfl (q0 := 0) rfl rfl rfl (Nat.le_of_ble_eq_true rfl) rfl dX11_count_66 rfl rfl ?_
          cases hF
          rw [hQ]
          exact gq_iret hC rfl dX11_count_69
        · have hF := (if_neg hn_5).symm.trans hF
          by_cases hn_6 : x1 = 5
          · have hF := (if_pos hn_6).symm.trans hF
            refine gq_tblIn hC (off := 39) (v := 5) 70 dX11_count_31 hn_6 (by decide) (by decide) (by decide) (by decide) ?_
            refine gq_aload_n hC 0 dX11_count_70 rfl rfl ?_
            obtain ⟨r_7, hc_, hF⟩ := ob1_e hF
            refine gq_callVi hC [0, 1] [(h_t_, .inr (11, [.ref h_a, .ref h_fresh, .ref h_kept, .int v_keptMany, .int st_1, .ref h_buffer, .int v_buffered, .int v_size, .int v_at, .int v_behind, .int v_kind, .int v_wrong, .int v_wrongAt, .int v_errorAt, .long v_number, .ref h_worthFrom, .ref h_cutsFrom, .ref h_endFrom, .ref h_changes, .ref h_waysFrom, .int v_toCut, .int v_toLeave, .ref h_costAt, .ref h_places, .ref h_isCut, .ref h_written, .int v_writtenMany])), (h_a, .inl (cJ, 499, .inr (.inl v_a)))] [] [] (k_X11_longPauses l D cI cJ cZ cO z h_t_ h_a h_fresh h_kept h_buffer h_worthFrom h_cutsFrom h_endFrom h_changes h_waysFrom h_costAt h_places h_isCut h_written v_keptMany st_1 v_buffered v_size v_at v_behind v_kind v_wrong v_wrongAt v_errorAt v_number v_toCut v_toLeave v_writtenMany v_a r_7 hc_) gX11_count_X11_longPauses rfl ⟨rfl, rfl⟩ hy_X11_longPauses ⟨Nat.le_of_ble_eq_true rfl, Nat.le_of_ble_eq_true rfl⟩ rfl rfl rfl (q0 := 0) rfl rfl rfl (Nat.le_of_ble_eq_true rfl) rfl dX11_count_71 rfl rfl ?_
            cases hF
            rw [hQ]
            exact gq_iret hC rfl dX11_count_74
          · have hF := (if_neg hn_6).symm.trans hF
            refine gq_tblOut hC 75 dX11_count_31 (by have h9 : ∀ z : Int32, z.toInt = z.toInt := fun _ => rfl; have := lv_neT hn_4 (show (3 : Int32).toInt = 3 from by decide); have := lv_neT hn_5 (show (4 : Int32).toInt = 4 from by decide); have := lv_neT hn_6 (show (5 : Int32).toInt = 5 from by decide); omega) (by decide) ?_
            refine gq_aload_n hC 0 dX11_count_75 rfl rfl ?_
            refine gq_get hC (kf := 0) 0 hin_X11 rfl rfl (by decide) hw_9 rfl dX11_count_76 ?_
            refine gq_bipush hC (6 : Int32) dX11_count_79 (by decide) ?_
            refine gq_iload_n hC 1 dX11_count_81 rfl rfl ?_
            refine gq_iadd hC dX11_count_82 ?_
            obtain ⟨hi_3, hF⟩ := gi_e hF
            refine gq_lald hC 1 1 rfl rfl hi_3 dX11_count_83 ?_
            refine gq_l2i hC dX11_count_84 ?_
            cases hF
            rw [hQ]
            exact gq_iret hC rfl dX11_count_85
    · have hF := (if_neg hc_11).symm.trans hF
      refine gq_iconst hC (0 : Int32) dX11_count_28 (by decide) ?_
      cases hF
      rw [hQ]
      exact gq_iret hC rfl dX11_count_29
  unfold F_X11_count at hF
  refine gq_aload_n hC 0 dX11_count_0 rfl rfl ?_
  refine gq_iload_n hC 1 dX11_count_1 rfl rfl ?_
  refine gq_i2l hC dX11_count_2 ?_
  refine gq_lconst hC (0 : Int64) dX11_count_3 (by decide) ?_
  refine gq_ldc2 hC (5 : Int64) dX11_count_4 (by decide +kernel) ?_
  obtain ⟨r_12, hc_, hF⟩ := ob1_e hF
  refine gq_callSi hC [] [(h_t_, .inr (11, [.ref h_a, .ref h_fresh, .ref h_kept, .int v_keptMany, .int v_thrown, .ref h_buffer, .int v_buffered, .int v_size, .int v_at, .int v_behind, .int v_kind, .int v_wrong, .int v_wrongAt, .int v_errorAt, .long v_number, .ref h_worthFrom, .ref h_cutsFrom, .ref h_endFrom, .ref h_changes, .ref h_waysFrom, .int v_toCut, .int v_toLeave, .ref h_costAt, .ref h_places, .ref h_isCut, .ref h_written, .int v_writtenMany])), (h_a, .inl (cJ, 499, .inr (.inl v_a)))] [.long (x1.toInt64), .long (0 : Int64), .long (5 : Int64)] [.ref h_t_] (k_X11_isIn l D cI cJ cZ cO z  (x1.toInt64) (0 : Int64) (5 : Int64) r_12 hc_) gX11_count_X11_isIn rfl ⟨rfl, rfl⟩ hy_X11_isIn rfl ⟨Nat.le_of_ble_eq_true rfl, Nat.le_of_ble_eq_true rfl⟩ rfl rfl rfl (Nat.le_of_ble_eq_true rfl) rfl dX11_count_7 rfl rfl ?_
  refine gq_if_eq hC 17 dX11_count_10 (by decide) (fun hc_13 => ?_) (fun hc_13 => ?_)
  · have hF := (if_pos hc_13).symm.trans hF
    refine gq_iconst hC (1 : Int32) dX11_count_17 (by decide) ?_
    exact jb18 (1 : Int32) v_thrown hF
  · have hF := (if_neg hc_13).symm.trans hF
    refine gq_iconst hC (0 : Int32) dX11_count_13 (by decide) ?_
    refine gq_goto hC 18 dX11_count_14 (by decide) ?_
    exact jb18 (0 : Int32) v_thrown hF
theorem hy_X11_setting : yX11_setting.cls = RX11 ∧ yX11_setting.cls ≠ "java/lang/invoke/MethodHandle" ∧ yX11_setting.cls ≠ "java/lang/invoke/VarHandle" ∧ (parseMethodDescriptor yX11_setting.desc).map (fun d => d.parameters.length) = some 1 := by decide +kernel
set_option maxRecDepth 20000 in
set_option maxHeartbeats 4000000 in
theorem k_X11_setting (l : Launch) (D : va_G) (cI cJ cZ cO : ClassId) (z : Nat → Nat)   (h_t_ : Nat) (h_a : Nat) (h_fresh : Nat) (h_kept : Nat) (h_buffer : Nat) (h_worthFrom : Nat) (h_cutsFrom : Nat) (h_endFrom : Nat) (h_changes : Nat) (h_waysFrom : Nat) (h_costAt : Nat) (h_places : Nat) (h_isCut : Nat) (h_written : Nat) (x1 : Int32) (v_keptMany : Int32) (v_thrown : Int32) (v_buffered : Int32) (v_size : Int32) (v_at : Int32) (v_behind : Int32) (v_kind : Int32) (v_wrong : Int32) (v_wrongAt : Int32) (v_errorAt : Int32) (v_number : Int64) (v_toCut : Int32) (v_toLeave : Int32) (v_writtenMany : Int32) (v_a : Nat → Int64) (r_ : Int32) (w_thrown : Int32) (hF : F_X11_setting x1 v_thrown v_a = some (r_, w_thrown)) : Mi l yX11_setting wsX11_setting (rmD 1) D (gq_ty cI cJ cZ cO) z [.ref h_t_, .int x1] [(h_t_, .inr (11, [.ref h_a, .ref h_fresh, .ref h_kept, .int v_keptMany, .int v_thrown, .ref h_buffer, .int v_buffered, .int v_size, .int v_at, .int v_behind, .int v_kind, .int v_wrong, .int v_wrongAt, .int v_errorAt, .long v_number, .ref h_worthFrom, .ref h_cutsFrom, .ref h_endFrom, .ref h_changes, .ref h_waysFrom, .int v_toCut, .int v_toLeave, .ref h_costAt, .ref h_places, .ref h_isCut, .ref h_written, .int v_writtenMany])), (h_a, .inl (cJ, 499, .inr (.inl v_a)))] r_ [(h_t_, .inr (11, [.ref h_a, .ref h_fresh, .ref h_kept, .int v_keptMany, .int w_thrown, .ref h_buffer, .int v_buffered, .int v_size, .int v_at, .int v_behind, .int v_kind, .int v_wrong, .int v_wrongAt, .int v_errorAt, .long v_number, .ref h_worthFrom, .ref h_cutsFrom, .ref h_endFrom, .ref h_changes, .ref h_waysFrom, .int v_toCut, .int v_toLeave, .ref h_costAt, .ref h_places, .ref h_isCut, .ref h_written, .int v_writtenMany])), (h_a, .inl (cJ, 499, .inr (.inl v_a)))] 0 0 := by
  refine Mi.of (cc := cX11_setting) (maxL := 2) (by decide) rfl (Nat.le_of_ble_eq_true rfl) ⟨Nat.le_refl 0, Nat.le_refl 0⟩ ?_
  intro p e s m args below meth c A hC ha
  have hin_X11 : ∀ w ∈ wsX110, w ∈ wsX11_setting := by decide +kernel
  have hw_9 : Cond.fieldLink RX11 9 (TX11 0).1 (TX11 0).2.1 (TX11 0).2.2.1 ∈ wsX11_setting := by decide +kernel
  have hw_79 : Cond.fieldLink RX11 79 (TX11 4).1 (TX11 4).2.1 (TX11 4).2.2.1 ∈ wsX11_setting := by decide +kernel
  obtain ⟨Q, hQ⟩ : ∃ Q, Q = gq_Qi below D A args s r_ [(h_t_, .inr (11, [.ref h_a, .ref h_fresh, .ref h_kept, .int v_keptMany, .int w_thrown, .ref h_buffer, .int v_buffered, .int v_size, .int v_at, .int v_behind, .int v_kind, .int v_wrong, .int v_wrongAt, .int v_errorAt, .long v_number, .ref h_worthFrom, .ref h_cutsFrom, .ref h_endFrom, .ref h_changes, .ref h_waysFrom, .int v_toCut, .int v_toLeave, .ref h_costAt, .ref h_places, .ref h_isCut, .ref h_written, .int v_writtenMany])), (h_a, .inl (cJ, 499, .inr (.inl v_a)))] 0 0 := ⟨_, rfl⟩
  rw [← hQ]
  refine gq_loc [(0, .ref h_t_), (1, .int x1)] rfl ?_
  have jb18 : ∀ (st_1 : Int32) (v_thrown_2 : Int32), F_X11_setting_b18 x1 st_1 v_thrown_2 v_a = some (r_, w_thrown) → Gx p l e (rmD 1) s m args below meth c D A 2 Q 0 0 18 [(0, .ref h_t_), (1, .int x1)] [.int st_1, .ref h_t_] [(h_t_, .inr (11, [.ref h_a, .ref h_fresh, .ref h_kept, .int v_keptMany, .int v_thrown_2, .ref h_buffer, .int v_buffered, .int v_size, .int v_at, .int v_behind, .int v_kind, .int v_wrong, .int v_wrongAt, .int v_errorAt, .long v_number, .ref h_worthFrom, .ref h_cutsFrom, .ref h_endFrom, .ref h_changes, .ref h_waysFrom, .int v_toCut, .int v_toLeave, .ref h_costAt, .ref h_places, .ref h_isCut, .ref h_written, .int v_writtenMany])), (h_a, .inl (cJ, 499, .inr (.inl v_a)))] := by
    intro st_1 v_thrown_2 hF
    unfold F_X11_setting_b18 at hF
    refine gq_put1 hC (kf := 4) 0 [(h_t_, .inr (11, [.ref h_a, .ref h_fresh, .ref h_kept, .int v_keptMany, .int st_1, .ref h_buffer, .int v_buffered, .int v_size, .int v_at, .int v_behind, .int v_kind, .int v_wrong, .int v_wrongAt, .int v_errorAt, .long v_number, .ref h_worthFrom, .ref h_cutsFrom, .ref h_endFrom, .ref h_changes, .ref h_waysFrom, .int v_toCut, .int v_toLeave, .ref h_costAt, .ref h_places, .ref h_isCut, .ref h_written, .int v_writtenMany])), (h_a, .inl (cJ, 499, .inr (.inl v_a)))] tyX11 tyX11_ok nmX11 hin_X11 rfl rfl (by decide) hw_79 rfl rfl rfl (Nat.le_of_ble_eq_true rfl) dX11_setting_18 rfl ?_
    refine gq_aload_n hC 0 dX11_setting_21 rfl rfl ?_
    refine gq_get hC (kf := 4) 0 hin_X11 rfl rfl (by decide) hw_79 rfl dX11_setting_22 ?_
    refine gq_if_le hC 32 dX11_setting_25 (by decide) (fun hc_4 => ?_) (fun hc_4 => ?_)
    · have hF := (if_pos hc_4).symm.trans hF
      refine gq_aload_n hC 0 dX11_setting_32 rfl rfl ?_
      refine gq_get hC (kf := 0) 0 hin_X11 rfl rfl (by decide) hw_9 rfl dX11_setting_33 ?_
      refine gq_iload_n hC 1 dX11_setting_36 rfl rfl ?_
      obtain ⟨hi_3, hF⟩ := gi_e hF
      refine gq_lald hC 1 1 rfl rfl hi_3 dX11_setting_37 ?_
      refine gq_l2i hC dX11_setting_38 ?_
      cases hF
      rw [hQ]
      exact gq_iret hC rfl dX11_setting_39
    · have hF := (if_neg hc_4).symm.trans hF
      refine gq_iconst hC (0 : Int32) dX11_setting_28 (by decide) ?_
      refine gq_goto hC 39 dX11_setting_29 (by decide) ?_
      cases hF
      rw [hQ]
      exact gq_iret hC rfl dX11_setting_39
  unfold F_X11_setting at hF
  refine gq_aload_n hC 0 dX11_setting_0 rfl rfl ?_
  refine gq_iload_n hC 1 dX11_setting_1 rfl rfl ?_
  refine gq_i2l hC dX11_setting_2 ?_
  refine gq_lconst hC (0 : Int64) dX11_setting_3 (by decide) ?_
  refine gq_ldc2 hC (5 : Int64) dX11_setting_4 (by decide +kernel) ?_
  obtain ⟨r_5, hc_, hF⟩ := ob1_e hF
  refine gq_callSi hC [] [(h_t_, .inr (11, [.ref h_a, .ref h_fresh, .ref h_kept, .int v_keptMany, .int v_thrown, .ref h_buffer, .int v_buffered, .int v_size, .int v_at, .int v_behind, .int v_kind, .int v_wrong, .int v_wrongAt, .int v_errorAt, .long v_number, .ref h_worthFrom, .ref h_cutsFrom, .ref h_endFrom, .ref h_changes, .ref h_waysFrom, .int v_toCut, .int v_toLeave, .ref h_costAt, .ref h_places, .ref h_isCut, .ref h_written, .int v_writtenMany])), (h_a, .inl (cJ, 499, .inr (.inl v_a)))] [.long (x1.toInt64), .long (0 : Int64), .long (5 : Int64)] [.ref h_t_] (k_X11_isIn l D cI cJ cZ cO z  (x1.toInt64) (0 : Int64) (5 : Int64) r_5 hc_) gX11_setting_X11_isIn rfl ⟨rfl, rfl⟩ hy_X11_isIn rfl ⟨Nat.le_of_ble_eq_true rfl, Nat.le_of_ble_eq_true rfl⟩ rfl rfl rfl (Nat.le_of_ble_eq_true rfl) rfl dX11_setting_7 rfl rfl ?_
  refine gq_if_eq hC 17 dX11_setting_10 (by decide) (fun hc_6 => ?_) (fun hc_6 => ?_)
  · have hF := (if_pos hc_6).symm.trans hF
    refine gq_iconst hC (1 : Int32) dX11_setting_17 (by decide) ?_
    exact jb18 (1 : Int32) v_thrown hF
  · have hF := (if_neg hc_6).symm.trans hF
    refine gq_iconst hC (0 : Int32) dX11_setting_13 (by decide) ?_
    refine gq_goto hC 18 dX11_setting_14 (by decide) ?_
    exact jb18 (0 : Int32) v_thrown hF
theorem hy_X11_set : yX11_set.cls = RX11 ∧ yX11_set.cls ≠ "java/lang/invoke/MethodHandle" ∧ yX11_set.cls ≠ "java/lang/invoke/VarHandle" ∧ (parseMethodDescriptor yX11_set.desc).map (fun d => d.parameters.length) = some 2 := by decide +kernel
set_option maxRecDepth 20000 in
set_option maxHeartbeats 4000000 in
theorem k_X11_set (l : Launch) (D : va_G) (cI cJ cZ cO : ClassId) (z : Nat → Nat)   (h_t_ : Nat) (h_a : Nat) (h_kept : Nat) (h_fresh : Nat) (h_buffer : Nat) (h_worthFrom : Nat) (h_cutsFrom : Nat) (h_endFrom : Nat) (h_changes : Nat) (h_waysFrom : Nat) (h_costAt : Nat) (h_places : Nat) (h_isCut : Nat) (h_written : Nat) (x1 : Int32) (x2 : Int32) (v_keptMany : Int32) (v_thrown : Int32) (v_buffered : Int32) (v_size : Int32) (v_at : Int32) (v_behind : Int32) (v_kind : Int32) (v_wrong : Int32) (v_wrongAt : Int32) (v_errorAt : Int32) (v_number : Int64) (v_toCut : Int32) (v_toLeave : Int32) (v_writtenMany : Int32) (v_a : Nat → Int64) (v_kept : Nat → Int64) (r_ : Int32) (w_keptMany : Int32) (w_thrown : Int32) (w_a : Nat → Int64) (w_kept : Nat → Int64) (hF : F_X11_set x1 x2 v_keptMany v_thrown v_a v_kept = some (r_, w_keptMany, w_thrown, w_a, w_kept)) : Mi l yX11_set wsX11_set (rmD 1) D (gq_ty cI cJ cZ cO) z [.ref h_t_, .int x1, .int x2] [(h_t_, .inr (11, [.ref h_a, .ref h_fresh, .ref h_kept, .int v_keptMany, .int v_thrown, .ref h_buffer, .int v_buffered, .int v_size, .int v_at, .int v_behind, .int v_kind, .int v_wrong, .int v_wrongAt, .int v_errorAt, .long v_number, .ref h_worthFrom, .ref h_cutsFrom, .ref h_endFrom, .ref h_changes, .ref h_waysFrom, .int v_toCut, .int v_toLeave, .ref h_costAt, .ref h_places, .ref h_isCut, .ref h_written, .int v_writtenMany])), (h_a, .inl (cJ, 499, .inr (.inl v_a))), (h_kept, .inl (cJ, 3992, .inr (.inl v_kept)))] r_ [(h_t_, .inr (11, [.ref h_a, .ref h_fresh, .ref h_kept, .int w_keptMany, .int w_thrown, .ref h_buffer, .int v_buffered, .int v_size, .int v_at, .int v_behind, .int v_kind, .int v_wrong, .int v_wrongAt, .int v_errorAt, .long v_number, .ref h_worthFrom, .ref h_cutsFrom, .ref h_endFrom, .ref h_changes, .ref h_waysFrom, .int v_toCut, .int v_toLeave, .ref h_costAt, .ref h_places, .ref h_isCut, .ref h_written, .int v_writtenMany])), (h_a, .inl (cJ, 499, .inr (.inl w_a))), (h_kept, .inl (cJ, 3992, .inr (.inl w_kept)))] 0 0 := by
  refine Mi.of (cc := cX11_set) (maxL := 4) (by decide) rfl (Nat.le_of_ble_eq_true rfl) ⟨Nat.le_refl 0, Nat.le_refl 0⟩ ?_
  intro p e s m args below meth c A hC ha
  have hin_X11 : ∀ w ∈ wsX110, w ∈ wsX11_set := by decide +kernel
  have hw_9 : Cond.fieldLink RX11 9 (TX11 0).1 (TX11 0).2.1 (TX11 0).2.2.1 ∈ wsX11_set := by decide +kernel
  have hw_79 : Cond.fieldLink RX11 79 (TX11 4).1 (TX11 4).2.1 (TX11 4).2.2.1 ∈ wsX11_set := by decide +kernel
  obtain ⟨Q, hQ⟩ : ∃ Q, Q = gq_Qi below D A args s r_ [(h_t_, .inr (11, [.ref h_a, .ref h_fresh, .ref h_kept, .int w_keptMany, .int w_thrown, .ref h_buffer, .int v_buffered, .int v_size, .int v_at, .int v_behind, .int v_kind, .int v_wrong, .int v_wrongAt, .int v_errorAt, .long v_number, .ref h_worthFrom, .ref h_cutsFrom, .ref h_endFrom, .ref h_changes, .ref h_waysFrom, .int v_toCut, .int v_toLeave, .ref h_costAt, .ref h_places, .ref h_isCut, .ref h_written, .int v_writtenMany])), (h_a, .inl (cJ, 499, .inr (.inl w_a))), (h_kept, .inl (cJ, 3992, .inr (.inl w_kept)))] 0 0 := ⟨_, rfl⟩
  rw [← hQ]
  refine gq_loc [(0, .ref h_t_), (1, .int x1), (2, .int x2)] rfl ?_
  have jb40 : ∀ (st_1 : Int32) (v_keptMany_2 : Int32) (v_thrown_3 : Int32) (v_a_4 : Nat → Int64) (v_kept_5 : Nat → Int64), F_X11_set_b40 x1 x2 st_1 v_keptMany_2 v_thrown_3 v_a_4 v_kept_5 = some (r_, w_keptMany, w_thrown, w_a, w_kept) → Gx p l e (rmD 1) s m args below meth c D A 4 Q 0 0 40 [(0, .ref h_t_), (1, .int x1), (2, .int x2)] [.int st_1, .ref h_t_] [(h_t_, .inr (11, [.ref h_a, .ref h_fresh, .ref h_kept, .int v_keptMany_2, .int v_thrown_3, .ref h_buffer, .int v_buffered, .int v_size, .int v_at, .int v_behind, .int v_kind, .int v_wrong, .int v_wrongAt, .int v_errorAt, .long v_number, .ref h_worthFrom, .ref h_cutsFrom, .ref h_endFrom, .ref h_changes, .ref h_waysFrom, .int v_toCut, .int v_toLeave, .ref h_costAt, .ref h_places, .ref h_isCut, .ref h_written, .int v_writtenMany])), (h_a, .inl (cJ, 499, .inr (.inl v_a_4))), (h_kept, .inl (cJ, 3992, .inr (.inl v_kept_5)))] := by
    intro st_1 v_keptMany_2 v_thrown_3 v_a_4 v_kept_5 hF
    unfold F_X11_set_b40 at hF
    refine gq_put1 hC (kf := 4) 0 [(h_t_, .inr (11, [.ref h_a, .ref h_fresh, .ref h_kept, .int v_keptMany_2, .int st_1, .ref h_buffer, .int v_buffered, .int v_size, .int v_at, .int v_behind, .int v_kind, .int v_wrong, .int v_wrongAt, .int v_errorAt, .long v_number, .ref h_worthFrom, .ref h_cutsFrom, .ref h_endFrom, .ref h_changes, .ref h_waysFrom, .int v_toCut, .int v_toLeave, .ref h_costAt, .ref h_places, .ref h_isCut, .ref h_written, .int v_writtenMany])), (h_a, .inl (cJ, 499, .inr (.inl v_a_4))), (h_kept, .inl (cJ, 3992, .inr (.inl v_kept_5)))] tyX11 tyX11_ok nmX11 hin_X11 rfl rfl (by decide) hw_79 rfl rfl rfl (Nat.le_of_ble_eq_true rfl) dX11_set_40 rfl ?_
    refine gq_aload_n hC 0 dX11_set_43 rfl rfl ?_
    refine gq_get hC (kf := 4) 0 hin_X11 rfl rfl (by decide) hw_79 rfl dX11_set_44 ?_
    refine gq_if_le hC 52 dX11_set_47 (by decide) (fun hc_10 => ?_) (fun hc_10 => ?_)
    · have hF := (if_pos hc_10).symm.trans hF
      refine gq_aload_n hC 0 dX11_set_52 rfl rfl ?_
      obtain ⟨v_keptMany_6, v_kept_7, hc_, hF⟩ := ob2_e hF
      refine gq_callVv hC [0, 1, 2] [(h_t_, .inr (11, [.ref h_a, .ref h_fresh, .ref h_kept, .int v_keptMany_6, .int st_1, .ref h_buffer, .int v_buffered, .int v_size, .int v_at, .int v_behind, .int v_kind, .int v_wrong, .int v_wrongAt, .int v_errorAt, .long v_number, .ref h_worthFrom, .ref h_cutsFrom, .ref h_endFrom, .ref h_changes, .ref h_waysFrom, .int v_toCut, .int v_toLeave, .ref h_costAt, .ref h_places, .ref h_isCut, .ref h_written, .int v_writtenMany])), (h_a, .inl (cJ, 499, .inr (.inl v_a_4))), (h_kept, .inl (cJ, 3992, .inr (.inl v_kept_7)))] [] [] (k_X11_keeps l D cI cJ cZ cO z h_t_ h_a h_kept h_fresh h_buffer h_worthFrom h_cutsFrom h_endFrom h_changes h_waysFrom h_costAt h_places h_isCut h_written v_keptMany_2 st_1 v_buffered v_size v_at v_behind v_kind v_wrong v_wrongAt v_errorAt v_number v_toCut v_toLeave v_writtenMany v_a_4 v_kept_5 v_keptMany_6 v_kept_7 hc_) gX11_set_X11_keeps rfl ⟨rfl, rfl⟩ hy_X11_keeps ⟨Nat.le_of_ble_eq_true rfl, Nat.le_of_ble_eq_true rfl⟩ rfl rfl rfl (q0 := 0) rfl rfl rfl (Nat.le_of_ble_eq_true rfl) rfl dX11_set_53 rfl rfl ?_
      refine gq_aload_n hC 0 dX11_set_56 rfl rfl ?_
      refine gq_get hC (kf := 0) 0 hin_X11 rfl rfl (by decide) hw_9 rfl dX11_set_57 ?_
      refine gq_iload_n hC 1 dX11_set_60 rfl rfl ?_
      obtain ⟨hi_8, hF⟩ := gi_e hF
      refine gq_lald hC 1 1 rfl rfl hi_8 dX11_set_61 ?_
      refine gq_l2i hC dX11_set_62 ?_
      refine gq_istore_n hC [(3, .int ((v_a_4 x1.toNatClampNeg).toInt32)), (0, .ref h_t_), (1, .int x1), (2, .int x2)] dX11_set_63 rfl (by decide) rfl ?_
      refine gq_aload_n hC 1 dX11_set_64 rfl rfl ?_
      refine gq_get hC (kf := 0) 0 hin_X11 rfl rfl (by decide) hw_9 rfl dX11_set_65 ?_
      refine gq_iload_n hC 2 dX11_set_68 rfl rfl ?_
      refine gq_iload_n hC 3 dX11_set_69 rfl rfl ?_
      refine gq_i2l hC dX11_set_70 ?_
      obtain ⟨hi_9, hF⟩ := gi_e hF
      refine gq_last hC 1 1 [(h_t_, .inr (11, [.ref h_a, .ref h_fresh, .ref h_kept, .int v_keptMany_6, .int st_1, .ref h_buffer, .int v_buffered, .int v_size, .int v_at, .int v_behind, .int v_kind, .int v_wrong, .int v_wrongAt, .int v_errorAt, .long v_number, .ref h_worthFrom, .ref h_cutsFrom, .ref h_endFrom, .ref h_changes, .ref h_waysFrom, .int v_toCut, .int v_toLeave, .ref h_costAt, .ref h_places, .ref h_isCut, .ref h_written, .int v_writtenMany])), (h_a, .inl (cJ, 499, .inr (.inl (vp_updL v_a_4 x1.toNatClampNeg (x2.toInt64))))), (h_kept, .inl (cJ, 3992, .inr (.inl v_kept_7)))] rfl rfl hi_9 dX11_set_71 rfl ?_
      refine gq_iload_n hC 0 dX11_set_72 rfl rfl ?_
      cases hF
      rw [hQ]
      exact gq_iret hC rfl dX11_set_73
    · have hF := (if_neg hc_10).symm.trans hF
      refine gq_iconst hC (0 : Int32) dX11_set_50 (by decide) ?_
      cases hF
      rw [hQ]
      exact gq_iret hC rfl dX11_set_51
  unfold F_X11_set at hF
  refine gq_aload_n hC 0 dX11_set_0 rfl rfl ?_
  refine gq_iload_n hC 1 dX11_set_1 rfl rfl ?_
  refine gq_i2l hC dX11_set_2 ?_
  refine gq_lconst hC (0 : Int64) dX11_set_3 (by decide) ?_
  refine gq_ldc2 hC (5 : Int64) dX11_set_4 (by decide +kernel) ?_
  obtain ⟨r_11, hc_, hF⟩ := ob1_e hF
  refine gq_callSi hC [] [(h_t_, .inr (11, [.ref h_a, .ref h_fresh, .ref h_kept, .int v_keptMany, .int v_thrown, .ref h_buffer, .int v_buffered, .int v_size, .int v_at, .int v_behind, .int v_kind, .int v_wrong, .int v_wrongAt, .int v_errorAt, .long v_number, .ref h_worthFrom, .ref h_cutsFrom, .ref h_endFrom, .ref h_changes, .ref h_waysFrom, .int v_toCut, .int v_toLeave, .ref h_costAt, .ref h_places, .ref h_isCut, .ref h_written, .int v_writtenMany])), (h_a, .inl (cJ, 499, .inr (.inl v_a))), (h_kept, .inl (cJ, 3992, .inr (.inl v_kept)))] [.long (x1.toInt64), .long (0 : Int64), .long (5 : Int64)] [.ref h_t_] (k_X11_isIn l D cI cJ cZ cO z  (x1.toInt64) (0 : Int64) (5 : Int64) r_11 hc_) gX11_set_X11_isIn rfl ⟨rfl, rfl⟩ hy_X11_isIn rfl ⟨Nat.le_of_ble_eq_true rfl, Nat.le_of_ble_eq_true rfl⟩ rfl rfl rfl (Nat.le_of_ble_eq_true rfl) rfl dX11_set_7 rfl rfl ?_
  refine gq_if_ne hC 17 dX11_set_10 (by decide) (fun hc_16 => ?_) (fun hc_16 => ?_)
  · have hF := (if_neg hc_16).symm.trans hF
    refine gq_iload_n hC 2 dX11_set_17 rfl rfl ?_
    refine gq_i2l hC dX11_set_18 ?_
    refine gq_iload_n hC 1 dX11_set_19 rfl rfl ?_
    obtain ⟨r_12, hc_, hF⟩ := ob1_e hF
    refine gq_callSi hC [] [(h_t_, .inr (11, [.ref h_a, .ref h_fresh, .ref h_kept, .int v_keptMany, .int v_thrown, .ref h_buffer, .int v_buffered, .int v_size, .int v_at, .int v_behind, .int v_kind, .int v_wrong, .int v_wrongAt, .int v_errorAt, .long v_number, .ref h_worthFrom, .ref h_cutsFrom, .ref h_endFrom, .ref h_changes, .ref h_waysFrom, .int v_toCut, .int v_toLeave, .ref h_costAt, .ref h_places, .ref h_isCut, .ref h_written, .int v_writtenMany])), (h_a, .inl (cJ, 499, .inr (.inl v_a))), (h_kept, .inl (cJ, 3992, .inr (.inl v_kept)))] [.int x1] [.long (x2.toInt64), .ref h_t_] (k_X11_low l D cI cJ cZ cO z  x1 r_12 hc_) gX11_set_X11_low rfl ⟨rfl, rfl⟩ hy_X11_low rfl ⟨Nat.le_of_ble_eq_true rfl, Nat.le_of_ble_eq_true rfl⟩ rfl rfl rfl (Nat.le_of_ble_eq_true rfl) rfl dX11_set_20 rfl rfl ?_
    refine gq_i2l hC dX11_set_23 ?_
    refine gq_iload_n hC 1 dX11_set_24 rfl rfl ?_
    obtain ⟨r_13, hc_, hF⟩ := ob1_e hF
    refine gq_callSi hC [] [(h_t_, .inr (11, [.ref h_a, .ref h_fresh, .ref h_kept, .int v_keptMany, .int v_thrown, .ref h_buffer, .int v_buffered, .int v_size, .int v_at, .int v_behind, .int v_kind, .int v_wrong, .int v_wrongAt, .int v_errorAt, .long v_number, .ref h_worthFrom, .ref h_cutsFrom, .ref h_endFrom, .ref h_changes, .ref h_waysFrom, .int v_toCut, .int v_toLeave, .ref h_costAt, .ref h_places, .ref h_isCut, .ref h_written, .int v_writtenMany])), (h_a, .inl (cJ, 499, .inr (.inl v_a))), (h_kept, .inl (cJ, 3992, .inr (.inl v_kept)))] [.int x1] [.long (r_12.toInt64), .long (x2.toInt64), .ref h_t_] (k_X11_high l D cI cJ cZ cO z  x1 r_13 hc_) gX11_set_X11_high rfl ⟨rfl, rfl⟩ hy_X11_high rfl ⟨Nat.le_of_ble_eq_true rfl, Nat.le_of_ble_eq_true rfl⟩ rfl rfl rfl (Nat.le_of_ble_eq_true rfl) rfl dX11_set_25 rfl rfl ?_
    refine gq_i2l hC dX11_set_28 ?_
    obtain ⟨r_14, hc_, hF⟩ := ob1_e hF
    refine gq_callSi hC [] [(h_t_, .inr (11, [.ref h_a, .ref h_fresh, .ref h_kept, .int v_keptMany, .int v_thrown, .ref h_buffer, .int v_buffered, .int v_size, .int v_at, .int v_behind, .int v_kind, .int v_wrong, .int v_wrongAt, .int v_errorAt, .long v_number, .ref h_worthFrom, .ref h_cutsFrom, .ref h_endFrom, .ref h_changes, .ref h_waysFrom, .int v_toCut, .int v_toLeave, .ref h_costAt, .ref h_places, .ref h_isCut, .ref h_written, .int v_writtenMany])), (h_a, .inl (cJ, 499, .inr (.inl v_a))), (h_kept, .inl (cJ, 3992, .inr (.inl v_kept)))] [.long (x2.toInt64), .long (r_12.toInt64), .long (r_13.toInt64)] [.ref h_t_] (k_X11_isIn l D cI cJ cZ cO z  (x2.toInt64) (r_12.toInt64) (r_13.toInt64) r_14 hc_) gX11_set_X11_isIn rfl ⟨rfl, rfl⟩ hy_X11_isIn rfl ⟨Nat.le_of_ble_eq_true rfl, Nat.le_of_ble_eq_true rfl⟩ rfl rfl rfl (Nat.le_of_ble_eq_true rfl) rfl dX11_set_29 rfl rfl ?_
    refine gq_if_ne hC 39 dX11_set_32 (by decide) (fun hc_15 => ?_) (fun hc_15 => ?_)
    · have hF := (if_neg hc_15).symm.trans hF
      refine gq_iconst hC (0 : Int32) dX11_set_39 (by decide) ?_
      exact jb40 (0 : Int32) v_keptMany v_thrown v_a v_kept hF
    · have hF := (if_pos hc_15).symm.trans hF
      refine gq_iconst hC (2 : Int32) dX11_set_35 (by decide) ?_
      refine gq_goto hC 40 dX11_set_36 (by decide) ?_
      exact jb40 (2 : Int32) v_keptMany v_thrown v_a v_kept hF
  · have hF := (if_pos hc_16).symm.trans hF
    refine gq_iconst hC (1 : Int32) dX11_set_13 (by decide) ?_
    refine gq_goto hC 40 dX11_set_14 (by decide) ?_
    exact jb40 (1 : Int32) v_keptMany v_thrown v_a v_kept hF
theorem hy_X11_isSegment : yX11_isSegment.cls = RX11 ∧ yX11_isSegment.cls ≠ "java/lang/invoke/MethodHandle" ∧ yX11_isSegment.cls ≠ "java/lang/invoke/VarHandle" ∧ (parseMethodDescriptor yX11_isSegment.desc).map (fun d => d.parameters.length) = some 1 := by decide +kernel
set_option maxRecDepth 20000 in
set_option maxHeartbeats 4000000 in
theorem k_X11_isSegment (l : Launch) (D : va_G) (cI cJ cZ cO : ClassId) (z : Nat → Nat)   (h_t_ : Nat) (h_a : Nat) (h_fresh : Nat) (h_kept : Nat) (h_buffer : Nat) (h_worthFrom : Nat) (h_cutsFrom : Nat) (h_endFrom : Nat) (h_changes : Nat) (h_waysFrom : Nat) (h_costAt : Nat) (h_places : Nat) (h_isCut : Nat) (h_written : Nat) (x1 : Int32) (v_keptMany : Int32) (v_thrown : Int32) (v_buffered : Int32) (v_size : Int32) (v_at : Int32) (v_behind : Int32) (v_kind : Int32) (v_wrong : Int32) (v_wrongAt : Int32) (v_errorAt : Int32) (v_number : Int64) (v_toCut : Int32) (v_toLeave : Int32) (v_writtenMany : Int32) (v_a : Nat → Int64) (r_ : Int32) (hF : F_X11_isSegment x1 v_a = some r_) : Mi l yX11_isSegment wsX11_isSegment (rmD 1) D (gq_ty cI cJ cZ cO) z [.ref h_t_, .int x1] [(h_t_, .inr (11, [.ref h_a, .ref h_fresh, .ref h_kept, .int v_keptMany, .int v_thrown, .ref h_buffer, .int v_buffered, .int v_size, .int v_at, .int v_behind, .int v_kind, .int v_wrong, .int v_wrongAt, .int v_errorAt, .long v_number, .ref h_worthFrom, .ref h_cutsFrom, .ref h_endFrom, .ref h_changes, .ref h_waysFrom, .int v_toCut, .int v_toLeave, .ref h_costAt, .ref h_places, .ref h_isCut, .ref h_written, .int v_writtenMany])), (h_a, .inl (cJ, 499, .inr (.inl v_a)))] r_ [(h_t_, .inr (11, [.ref h_a, .ref h_fresh, .ref h_kept, .int v_keptMany, .int v_thrown, .ref h_buffer, .int v_buffered, .int v_size, .int v_at, .int v_behind, .int v_kind, .int v_wrong, .int v_wrongAt, .int v_errorAt, .long v_number, .ref h_worthFrom, .ref h_cutsFrom, .ref h_endFrom, .ref h_changes, .ref h_waysFrom, .int v_toCut, .int v_toLeave, .ref h_costAt, .ref h_places, .ref h_isCut, .ref h_written, .int v_writtenMany])), (h_a, .inl (cJ, 499, .inr (.inl v_a)))] 0 0 := by
  refine Mi.of (cc := cX11_isSegment) (maxL := 2) (by decide) rfl (Nat.le_of_ble_eq_true rfl) ⟨Nat.le_refl 0, Nat.le_refl 0⟩ ?_
  intro p e s m args below meth c A hC ha
  obtain ⟨Q, hQ⟩ : ∃ Q, Q = gq_Qi below D A args s r_ [(h_t_, .inr (11, [.ref h_a, .ref h_fresh, .ref h_kept, .int v_keptMany, .int v_thrown, .ref h_buffer, .int v_buffered, .int v_size, .int v_at, .int v_behind, .int v_kind, .int v_wrong, .int v_wrongAt, .int v_errorAt, .long v_number, .ref h_worthFrom, .ref h_cutsFrom, .ref h_endFrom, .ref h_changes, .ref h_waysFrom, .int v_toCut, .int v_toLeave, .ref h_costAt, .ref h_places, .ref h_isCut, .ref h_written, .int v_writtenMany])), (h_a, .inl (cJ, 499, .inr (.inl v_a)))] 0 0 := ⟨_, rfl⟩
  rw [← hQ]
  refine gq_loc [(0, .ref h_t_), (1, .int x1)] rfl ?_
  unfold F_X11_isSegment at hF
  refine gq_iload_n hC 1 dX11_isSegment_0 rfl rfl ?_
  refine gq_i2l hC dX11_isSegment_1 ?_
  refine gq_lconst hC (0 : Int64) dX11_isSegment_2 (by decide) ?_
  refine gq_aload_n hC 0 dX11_isSegment_3 rfl rfl ?_
  obtain ⟨r_1, hc_, hF⟩ := ob1_e hF
  refine gq_callVi hC [0, 1] [(h_t_, .inr (11, [.ref h_a, .ref h_fresh, .ref h_kept, .int v_keptMany, .int v_thrown, .ref h_buffer, .int v_buffered, .int v_size, .int v_at, .int v_behind, .int v_kind, .int v_wrong, .int v_wrongAt, .int v_errorAt, .long v_number, .ref h_worthFrom, .ref h_cutsFrom, .ref h_endFrom, .ref h_changes, .ref h_waysFrom, .int v_toCut, .int v_toLeave, .ref h_costAt, .ref h_places, .ref h_isCut, .ref h_written, .int v_writtenMany])), (h_a, .inl (cJ, 499, .inr (.inl v_a)))] [] [.long (0 : Int64), .long (x1.toInt64)] (k_X11_many l D cI cJ cZ cO z h_t_ h_a h_fresh h_kept h_buffer h_worthFrom h_cutsFrom h_endFrom h_changes h_waysFrom h_costAt h_places h_isCut h_written v_keptMany v_thrown v_buffered v_size v_at v_behind v_kind v_wrong v_wrongAt v_errorAt v_number v_toCut v_toLeave v_writtenMany v_a r_1 hc_) gX11_isSegment_X11_many rfl ⟨rfl, rfl⟩ hy_X11_many ⟨Nat.le_of_ble_eq_true rfl, Nat.le_of_ble_eq_true rfl⟩ rfl rfl rfl (q0 := 0) rfl rfl rfl (Nat.le_of_ble_eq_true rfl) rfl dX11_isSegment_4 rfl rfl ?_
  refine gq_iconst hC (1 : Int32) dX11_isSegment_7 (by decide) ?_
  refine gq_isub hC dX11_isSegment_8 ?_
  refine gq_i2l hC dX11_isSegment_9 ?_
  obtain ⟨r_2, hc_, hF⟩ := ob1_e hF
  refine gq_callSi hC [] [(h_t_, .inr (11, [.ref h_a, .ref h_fresh, .ref h_kept, .int v_keptMany, .int v_thrown, .ref h_buffer, .int v_buffered, .int v_size, .int v_at, .int v_behind, .int v_kind, .int v_wrong, .int v_wrongAt, .int v_errorAt, .long v_number, .ref h_worthFrom, .ref h_cutsFrom, .ref h_endFrom, .ref h_changes, .ref h_waysFrom, .int v_toCut, .int v_toLeave, .ref h_costAt, .ref h_places, .ref h_isCut, .ref h_written, .int v_writtenMany])), (h_a, .inl (cJ, 499, .inr (.inl v_a)))] [.long (x1.toInt64), .long (0 : Int64), .long ((r_1 - (1 : Int32)).toInt64)] [] (k_X11_isIn l D cI cJ cZ cO z  (x1.toInt64) (0 : Int64) ((r_1 - (1 : Int32)).toInt64) r_2 hc_) gX11_isSegment_X11_isIn rfl ⟨rfl, rfl⟩ hy_X11_isIn rfl ⟨Nat.le_of_ble_eq_true rfl, Nat.le_of_ble_eq_true rfl⟩ rfl rfl rfl (Nat.le_of_ble_eq_true rfl) rfl dX11_isSegment_10 rfl rfl ?_
  obtain ⟨hb_3, hF⟩ := gb_e hF
  cases hF
  rw [hQ]
  exact gq_iret hC (gb_n hb_3) dX11_isSegment_13
theorem hy_X11_usesIn : yX11_usesIn.cls = RX11 ∧ yX11_usesIn.cls ≠ "java/lang/invoke/MethodHandle" ∧ yX11_usesIn.cls ≠ "java/lang/invoke/VarHandle" ∧ (parseMethodDescriptor yX11_usesIn.desc).map (fun d => d.parameters.length) = some 3 := by decide +kernel
set_option maxRecDepth 20000 in
set_option maxHeartbeats 4000000 in
theorem k_X11_usesIn (l : Launch) (D : va_G) (cI cJ cZ cO : ClassId) (z : Nat → Nat)   (h_t_ : Nat) (h_a : Nat) (h_fresh : Nat) (h_kept : Nat) (h_buffer : Nat) (h_worthFrom : Nat) (h_cutsFrom : Nat) (h_endFrom : Nat) (h_changes : Nat) (h_waysFrom : Nat) (h_costAt : Nat) (h_places : Nat) (h_isCut : Nat) (h_written : Nat) (x1 : Int32) (x2 : Int32) (x3 : Int32) (v_keptMany : Int32) (v_thrown : Int32) (v_buffered : Int32) (v_size : Int32) (v_at : Int32) (v_behind : Int32) (v_kind : Int32) (v_wrong : Int32) (v_wrongAt : Int32) (v_errorAt : Int32) (v_number : Int64) (v_toCut : Int32) (v_toLeave : Int32) (v_writtenMany : Int32) (v_a : Nat → Int64) (r_ : Int32) (hF : F_X11_usesIn x1 x2 x3 v_a = some r_) : Mi l yX11_usesIn wsX11_usesIn (rmD 1) D (gq_ty cI cJ cZ cO) z [.ref h_t_, .int x1, .int x2, .int x3] [(h_t_, .inr (11, [.ref h_a, .ref h_fresh, .ref h_kept, .int v_keptMany, .int v_thrown, .ref h_buffer, .int v_buffered, .int v_size, .int v_at, .int v_behind, .int v_kind, .int v_wrong, .int v_wrongAt, .int v_errorAt, .long v_number, .ref h_worthFrom, .ref h_cutsFrom, .ref h_endFrom, .ref h_changes, .ref h_waysFrom, .int v_toCut, .int v_toLeave, .ref h_costAt, .ref h_places, .ref h_isCut, .ref h_written, .int v_writtenMany])), (h_a, .inl (cJ, 499, .inr (.inl v_a)))] r_ [(h_t_, .inr (11, [.ref h_a, .ref h_fresh, .ref h_kept, .int v_keptMany, .int v_thrown, .ref h_buffer, .int v_buffered, .int v_size, .int v_at, .int v_behind, .int v_kind, .int v_wrong, .int v_wrongAt, .int v_errorAt, .long v_number, .ref h_worthFrom, .ref h_cutsFrom, .ref h_endFrom, .ref h_changes, .ref h_waysFrom, .int v_toCut, .int v_toLeave, .ref h_costAt, .ref h_places, .ref h_isCut, .ref h_written, .int v_writtenMany])), (h_a, .inl (cJ, 499, .inr (.inl v_a)))] 0 0 := by
  refine Mi.of (cc := cX11_usesIn) (maxL := 7) (by decide) rfl (Nat.le_of_ble_eq_true rfl) ⟨Nat.le_refl 0, Nat.le_refl 0⟩ ?_
  intro p e s m args below meth c A hC ha
  obtain ⟨Q, hQ⟩ : ∃ Q, Q = gq_Qi below D A args s r_ [(h_t_, .inr (11, [.ref h_a, .ref h_fresh, .ref h_kept, .int v_keptMany, .int v_thrown, .ref h_buffer, .int v_buffered, .int v_size, .int v_at, .int v_behind, .int v_kind, .int v_wrong, .int v_wrongAt, .int v_errorAt, .long v_number, .ref h_worthFrom, .ref h_cutsFrom, .ref h_endFrom, .ref h_changes, .ref h_waysFrom, .int v_toCut, .int v_toLeave, .ref h_costAt, .ref h_places, .ref h_isCut, .ref h_written, .int v_writtenMany])), (h_a, .inl (cJ, 499, .inr (.inl v_a)))] 0 0 := ⟨_, rfl⟩
  rw [← hQ]
  refine gq_loc [(0, .ref h_t_), (1, .int x1), (2, .int x2), (3, .int x3)] rfl ?_
  unfold F_X11_usesIn at hF
  refine gq_iconst hC (0 : Int32) dX11_usesIn_0 (by decide) ?_
  refine gq_istore hC [(4, .int (0 : Int32)), (0, .ref h_t_), (1, .int x1), (2, .int x2), (3, .int x3)] dX11_usesIn_1 (by decide) rfl ?_
  refine gq_iload_n hC 3 dX11_usesIn_3 rfl rfl ?_
  refine gq_istore hC [(5, .int x2), (4, .int (0 : Int32)), (0, .ref h_t_), (1, .int x1), (2, .int x2), (3, .int x3)] dX11_usesIn_4 (by decide) rfl ?_
  have lp6 : ∀ (e_13 : Int32), Gx p l e (rmD 1) s m args below meth c D A 7 Q 0 0 63 [(4, .int e_13)] [] [(h_t_, .inr (11, [.ref h_a, .ref h_fresh, .ref h_kept, .int v_keptMany, .int v_thrown, .ref h_buffer, .int v_buffered, .int v_size, .int v_at, .int v_behind, .int v_kind, .int v_wrong, .int v_wrongAt, .int v_errorAt, .long v_number, .ref h_worthFrom, .ref h_cutsFrom, .ref h_endFrom, .ref h_changes, .ref h_waysFrom, .int v_toCut, .int v_toLeave, .ref h_costAt, .ref h_places, .ref h_isCut, .ref h_written, .int v_writtenMany])), (h_a, .inl (cJ, 499, .inr (.inl v_a)))] → ∀ (N : Nat) (l4_1 : Int32) (l5_2 : Int32), wh (fun k q => S_X11_usesIn_6 x1 x3 v_a k q.1 q.2) N (l4_1, l5_2) = some e_13 → Gx p l e (rmD 1) s m args below meth c D A 7 Q 0 0 6 [(0, .ref h_t_), (1, .int x1), (3, .int x3), (4, .int l4_1), (5, .int l5_2)] [] [(h_t_, .inr (11, [.ref h_a, .ref h_fresh, .ref h_kept, .int v_keptMany, .int v_thrown, .ref h_buffer, .int v_buffered, .int v_size, .int v_at, .int v_behind, .int v_kind, .int v_wrong, .int v_wrongAt, .int v_errorAt, .long v_number, .ref h_worthFrom, .ref h_cutsFrom, .ref h_endFrom, .ref h_changes, .ref h_waysFrom, .int v_toCut, .int v_toLeave, .ref h_costAt, .ref h_places, .ref h_isCut, .ref h_written, .int v_writtenMany])), (h_a, .inl (cJ, 499, .inr (.inl v_a)))] := by
    intro e_13 hx0 N
    induction N with
    | zero => intro l4_1 l5_2 hw; exact absurd hw (wh_0 _ _ _)
    | succ N ih =>
      intro l4_1 l5_2 hw
      have hF : S_X11_usesIn_6 x1 x3 v_a (wh (fun k q => S_X11_usesIn_6 x1 x3 v_a k q.1 q.2) N) l4_1 l5_2 = some e_13 := hw
      unfold S_X11_usesIn_6 at hF
      refine gq_iload hC 4 dX11_usesIn_6 rfl ?_
      refine gq_iload_n hC 2 dX11_usesIn_8 rfl rfl ?_
      refine gq_icmp_gt hC 63 dX11_usesIn_9 (by decide) (fun hc_12 => ?_) (fun hc_12 => ?_)
      · have hF := (if_pos hc_12).symm.trans hF
        refine gq_sub [(4, .int l4_1)] [3] rfl ?_
        cases hF
        exact hx0
      · have hF := (if_neg hc_12).symm.trans hF
        refine gq_iconst hC (0 : Int32) dX11_usesIn_12 (by decide) ?_
        refine gq_istore hC [(6, .int (0 : Int32)), (0, .ref h_t_), (1, .int x1), (3, .int x3), (4, .int l4_1), (5, .int l5_2)] dX11_usesIn_13 (by decide) rfl ?_
        have lp15 : ∀ (l5_4 : Int32), ∀ (e_10 : Int32), Gx p l e (rmD 1) s m args below meth c D A 7 Q 0 0 57 [(0, .ref h_t_), (1, .int x1), (3, .int x3), (4, .int e_10), (5, .int l5_4)] [] [(h_t_, .inr (11, [.ref h_a, .ref h_fresh, .ref h_kept, .int v_keptMany, .int v_thrown, .ref h_buffer, .int v_buffered, .int v_size, .int v_at, .int v_behind, .int v_kind, .int v_wrong, .int v_wrongAt, .int v_errorAt, .long v_number, .ref h_worthFrom, .ref h_cutsFrom, .ref h_endFrom, .ref h_changes, .ref h_waysFrom, .int v_toCut, .int v_toLeave, .ref h_costAt, .ref h_places, .ref h_isCut, .ref h_written, .int v_writtenMany])), (h_a, .inl (cJ, 499, .inr (.inl v_a)))] → ∀ (N : Nat) (l4_3 : Int32) (l6_5 : Int32), wh (fun k q => S_X11_usesIn_15 x1 x3 l5_4 v_a k q.1 q.2) N (l4_3, l6_5) = some e_10 → Gx p l e (rmD 1) s m args below meth c D A 7 Q 0 0 15 [(0, .ref h_t_), (1, .int x1), (3, .int x3), (4, .int l4_3), (5, .int l5_4), (6, .int l6_5)] [] [(h_t_, .inr (11, [.ref h_a, .ref h_fresh, .ref h_kept, .int v_keptMany, .int v_thrown, .ref h_buffer, .int v_buffered, .int v_size, .int v_at, .int v_behind, .int v_kind, .int v_wrong, .int v_wrongAt, .int v_errorAt, .long v_number, .ref h_worthFrom, .ref h_cutsFrom, .ref h_endFrom, .ref h_changes, .ref h_waysFrom, .int v_toCut, .int v_toLeave, .ref h_costAt, .ref h_places, .ref h_isCut, .ref h_written, .int v_writtenMany])), (h_a, .inl (cJ, 499, .inr (.inl v_a)))] := by
          intro l5_4 e_10 hx0 N
          induction N with
          | zero => intro l4_3 l6_5 hw; exact absurd hw (wh_0 _ _ _)
          | succ N ih =>
            intro l4_3 l6_5 hw
            have hF : S_X11_usesIn_15 x1 x3 l5_4 v_a (wh (fun k q => S_X11_usesIn_15 x1 x3 l5_4 v_a k q.1 q.2) N) l4_3 l6_5 = some e_10 := hw
            unfold S_X11_usesIn_15 at hF
            refine gq_iload hC 5 dX11_usesIn_15 rfl ?_
            refine gq_aload_n hC 0 dX11_usesIn_17 rfl rfl ?_
            refine gq_iload hC 4 dX11_usesIn_18 rfl ?_
            refine gq_iconst hC (2 : Int32) dX11_usesIn_20 (by decide) ?_
            obtain ⟨r_6, hc_, hF⟩ := ob1_e hF
            refine gq_callVi hC [0, 1] [(h_t_, .inr (11, [.ref h_a, .ref h_fresh, .ref h_kept, .int v_keptMany, .int v_thrown, .ref h_buffer, .int v_buffered, .int v_size, .int v_at, .int v_behind, .int v_kind, .int v_wrong, .int v_wrongAt, .int v_errorAt, .long v_number, .ref h_worthFrom, .ref h_cutsFrom, .ref h_endFrom, .ref h_changes, .ref h_waysFrom, .int v_toCut, .int v_toLeave, .ref h_costAt, .ref h_places, .ref h_isCut, .ref h_written, .int v_writtenMany])), (h_a, .inl (cJ, 499, .inr (.inl v_a)))] [.int l5_4, .int (2 : Int32)] [.int l6_5] (k_X11_of l D cI cJ cZ cO z h_t_ h_a h_fresh h_kept h_buffer h_worthFrom h_cutsFrom h_endFrom h_changes h_waysFrom h_costAt h_places h_isCut h_written l5_4 (2 : Int32) v_keptMany v_thrown v_buffered v_size v_at v_behind v_kind v_wrong v_wrongAt v_errorAt v_number v_toCut v_toLeave v_writtenMany v_a r_6 hc_) gX11_usesIn_X11_of rfl ⟨rfl, rfl⟩ hy_X11_of ⟨Nat.le_of_ble_eq_true rfl, Nat.le_of_ble_eq_true rfl⟩ rfl rfl rfl (q0 := 0) rfl rfl rfl (Nat.le_of_ble_eq_true rfl) rfl dX11_usesIn_21 rfl rfl ?_
            refine gq_icmp_ge hC 57 dX11_usesIn_24 (by decide) (fun hc_9 => ?_) (fun hc_9 => ?_)
            · have hF := (if_pos hc_9).symm.trans hF
              refine gq_sub [(0, .ref h_t_), (1, .int x1), (3, .int x3), (4, .int l4_3), (5, .int l5_4)] [0, 1, 2, 3, 4] rfl ?_
              cases hF
              exact hx0
            · have hF := (if_neg hc_9).symm.trans hF
              refine gq_iload hC 3 dX11_usesIn_27 rfl ?_
              refine gq_aload_n hC 0 dX11_usesIn_29 rfl rfl ?_
              refine gq_iload hC 4 dX11_usesIn_30 rfl ?_
              refine gq_iconst hC (3 : Int32) dX11_usesIn_32 (by decide) ?_
              refine gq_iload hC 5 dX11_usesIn_33 rfl ?_
              refine gq_iadd hC dX11_usesIn_35 ?_
              obtain ⟨r_7, hc_, hF⟩ := ob1_e hF
              refine gq_callVi hC [0, 1] [(h_t_, .inr (11, [.ref h_a, .ref h_fresh, .ref h_kept, .int v_keptMany, .int v_thrown, .ref h_buffer, .int v_buffered, .int v_size, .int v_at, .int v_behind, .int v_kind, .int v_wrong, .int v_wrongAt, .int v_errorAt, .long v_number, .ref h_worthFrom, .ref h_cutsFrom, .ref h_endFrom, .ref h_changes, .ref h_waysFrom, .int v_toCut, .int v_toLeave, .ref h_costAt, .ref h_places, .ref h_isCut, .ref h_written, .int v_writtenMany])), (h_a, .inl (cJ, 499, .inr (.inl v_a)))] [.int l5_4, .int ((3 : Int32) + l6_5)] [.int l4_3] (k_X11_of l D cI cJ cZ cO z h_t_ h_a h_fresh h_kept h_buffer h_worthFrom h_cutsFrom h_endFrom h_changes h_waysFrom h_costAt h_places h_isCut h_written l5_4 ((3 : Int32) + l6_5) v_keptMany v_thrown v_buffered v_size v_at v_behind v_kind v_wrong v_wrongAt v_errorAt v_number v_toCut v_toLeave v_writtenMany v_a r_7 hc_) gX11_usesIn_X11_of rfl ⟨rfl, rfl⟩ hy_X11_of ⟨Nat.le_of_ble_eq_true rfl, Nat.le_of_ble_eq_true rfl⟩ rfl rfl rfl (q0 := 0) rfl rfl rfl (Nat.le_of_ble_eq_true rfl) rfl dX11_usesIn_36 rfl rfl ?_
              refine gq_iload_n hC 1 dX11_usesIn_39 rfl rfl ?_
              refine gq_icmp_ne hC 47 dX11_usesIn_40 (by decide) (fun hc_8 => ?_) (fun hc_8 => ?_)
              · have hF := (if_neg hc_8).symm.trans hF
                refine gq_iconst hC (0 : Int32) dX11_usesIn_47 (by decide) ?_
                refine gq_iadd hC dX11_usesIn_48 ?_
                refine gq_istore hC [(4, .int (l4_3 + (0 : Int32))), (0, .ref h_t_), (1, .int x1), (3, .int x3), (5, .int l5_4), (6, .int l6_5)] dX11_usesIn_49 (by decide) rfl ?_
                refine gq_iinc hC 5 (l6_5 + (1 : Int32)) [(6, .int (l6_5 + (1 : Int32))), (4, .int (l4_3 + (0 : Int32))), (0, .ref h_t_), (1, .int x1), (3, .int x3), (5, .int l5_4)] dX11_usesIn_51 rfl rfl (by decide) rfl ?_
                refine gq_goto hC 15 dX11_usesIn_54 (by decide) ?_
                refine gq_sub [(0, .ref h_t_), (1, .int x1), (3, .int x3), (4, .int (l4_3 + (0 : Int32))), (5, .int l5_4), (6, .int (l6_5 + (1 : Int32)))] [2, 3, 4, 1, 5, 0] rfl ?_
                exact ih (l4_3 + (0 : Int32)) (l6_5 + (1 : Int32)) hF
              · have hF := (if_pos hc_8).symm.trans hF
                refine gq_iconst hC (1 : Int32) dX11_usesIn_43 (by decide) ?_
                refine gq_goto hC 48 dX11_usesIn_44 (by decide) ?_
                refine gq_iadd hC dX11_usesIn_48 ?_
                refine gq_istore hC [(4, .int (l4_3 + (1 : Int32))), (0, .ref h_t_), (1, .int x1), (3, .int x3), (5, .int l5_4), (6, .int l6_5)] dX11_usesIn_49 (by decide) rfl ?_
                refine gq_iinc hC 5 (l6_5 + (1 : Int32)) [(6, .int (l6_5 + (1 : Int32))), (4, .int (l4_3 + (1 : Int32))), (0, .ref h_t_), (1, .int x1), (3, .int x3), (5, .int l5_4)] dX11_usesIn_51 rfl rfl (by decide) rfl ?_
                refine gq_goto hC 15 dX11_usesIn_54 (by decide) ?_
                refine gq_sub [(0, .ref h_t_), (1, .int x1), (3, .int x3), (4, .int (l4_3 + (1 : Int32))), (5, .int l5_4), (6, .int (l6_5 + (1 : Int32)))] [2, 3, 4, 1, 5, 0] rfl ?_
                exact ih (l4_3 + (1 : Int32)) (l6_5 + (1 : Int32)) hF
        refine gq_sub [(0, .ref h_t_), (1, .int x1), (3, .int x3), (4, .int l4_1), (5, .int l5_2), (6, .int (0 : Int32))] [1, 2, 3, 4, 5, 0] rfl ?_
        obtain ⟨e_11, hw_, hF⟩ := ob1_e hF
        refine lp15 l5_2 e_11 ?_ wF l4_1 (0 : Int32) hw_
        refine gq_iinc hC 4 (l5_2 + (1 : Int32)) [(5, .int (l5_2 + (1 : Int32))), (0, .ref h_t_), (1, .int x1), (3, .int x3), (4, .int e_11)] dX11_usesIn_57 rfl rfl (by decide) rfl ?_
        refine gq_goto hC 6 dX11_usesIn_60 (by decide) ?_
        refine gq_sub [(0, .ref h_t_), (1, .int x1), (3, .int x3), (4, .int e_11), (5, .int (l5_2 + (1 : Int32)))] [1, 2, 3, 4, 0] rfl ?_
        exact ih e_11 (l5_2 + (1 : Int32)) hF
  refine gq_sub [(0, .ref h_t_), (1, .int x1), (3, .int x3), (4, .int (0 : Int32)), (5, .int x2)] [2, 3, 5, 1, 0] rfl ?_
  obtain ⟨e_14, hw_, hF⟩ := ob1_e hF
  refine lp6  e_14 ?_ wF (0 : Int32) x2 hw_
  refine gq_iload hC 0 dX11_usesIn_63 rfl ?_
  cases hF
  rw [hQ]
  exact gq_iret hC rfl dX11_usesIn_65
theorem hy_X11_likenessOf : yX11_likenessOf.cls = RX11 ∧ yX11_likenessOf.cls ≠ "java/lang/invoke/MethodHandle" ∧ yX11_likenessOf.cls ≠ "java/lang/invoke/VarHandle" ∧ (parseMethodDescriptor yX11_likenessOf.desc).map (fun d => d.parameters.length) = some 4 := by decide +kernel
set_option maxRecDepth 20000 in
set_option maxHeartbeats 4000000 in
theorem k_X11_likenessOf (l : Launch) (D : va_G) (cI cJ cZ cO : ClassId) (z : Nat → Nat)   (h_t_ : Nat) (h_a : Nat) (h_fresh : Nat) (h_kept : Nat) (h_buffer : Nat) (h_worthFrom : Nat) (h_cutsFrom : Nat) (h_endFrom : Nat) (h_changes : Nat) (h_waysFrom : Nat) (h_costAt : Nat) (h_places : Nat) (h_isCut : Nat) (h_written : Nat) (x1 : Int32) (x2 : Int32) (x3 : Int32) (x4 : Int32) (v_keptMany : Int32) (v_thrown : Int32) (v_buffered : Int32) (v_size : Int32) (v_at : Int32) (v_behind : Int32) (v_kind : Int32) (v_wrong : Int32) (v_wrongAt : Int32) (v_errorAt : Int32) (v_number : Int64) (v_toCut : Int32) (v_toLeave : Int32) (v_writtenMany : Int32) (v_a : Nat → Int64) (r_ : Int32) (hF : F_X11_likenessOf x1 x2 x3 x4 v_a = some r_) : Mi l yX11_likenessOf wsX11_likenessOf (rmD 2) D (gq_ty cI cJ cZ cO) z [.ref h_t_, .int x1, .int x2, .int x3, .int x4] [(h_t_, .inr (11, [.ref h_a, .ref h_fresh, .ref h_kept, .int v_keptMany, .int v_thrown, .ref h_buffer, .int v_buffered, .int v_size, .int v_at, .int v_behind, .int v_kind, .int v_wrong, .int v_wrongAt, .int v_errorAt, .long v_number, .ref h_worthFrom, .ref h_cutsFrom, .ref h_endFrom, .ref h_changes, .ref h_waysFrom, .int v_toCut, .int v_toLeave, .ref h_costAt, .ref h_places, .ref h_isCut, .ref h_written, .int v_writtenMany])), (h_a, .inl (cJ, 499, .inr (.inl v_a)))] r_ [(h_t_, .inr (11, [.ref h_a, .ref h_fresh, .ref h_kept, .int v_keptMany, .int v_thrown, .ref h_buffer, .int v_buffered, .int v_size, .int v_at, .int v_behind, .int v_kind, .int v_wrong, .int v_wrongAt, .int v_errorAt, .long v_number, .ref h_worthFrom, .ref h_cutsFrom, .ref h_endFrom, .ref h_changes, .ref h_waysFrom, .int v_toCut, .int v_toLeave, .ref h_costAt, .ref h_places, .ref h_isCut, .ref h_written, .int v_writtenMany])), (h_a, .inl (cJ, 499, .inr (.inl v_a)))] 0 0 := by
  refine Mi.of (cc := cX11_likenessOf) (maxL := 10) (by decide) rfl (Nat.le_of_ble_eq_true rfl) ⟨Nat.le_refl 0, Nat.le_refl 0⟩ ?_
  intro p e s m args below meth c A hC ha
  have hin_X11 : ∀ w ∈ wsX110, w ∈ wsX11_likenessOf := by decide +kernel
  have hw_9 : Cond.fieldLink RX11 9 (TX11 0).1 (TX11 0).2.1 (TX11 0).2.2.1 ∈ wsX11_likenessOf := by decide +kernel
  obtain ⟨Q, hQ⟩ : ∃ Q, Q = gq_Qi below D A args s r_ [(h_t_, .inr (11, [.ref h_a, .ref h_fresh, .ref h_kept, .int v_keptMany, .int v_thrown, .ref h_buffer, .int v_buffered, .int v_size, .int v_at, .int v_behind, .int v_kind, .int v_wrong, .int v_wrongAt, .int v_errorAt, .long v_number, .ref h_worthFrom, .ref h_cutsFrom, .ref h_endFrom, .ref h_changes, .ref h_waysFrom, .int v_toCut, .int v_toLeave, .ref h_costAt, .ref h_places, .ref h_isCut, .ref h_written, .int v_writtenMany])), (h_a, .inl (cJ, 499, .inr (.inl v_a)))] 0 0 := ⟨_, rfl⟩
  rw [← hQ]
  refine gq_loc [(0, .ref h_t_), (1, .int x1), (2, .int x2), (3, .int x3), (4, .int x4)] rfl ?_
  unfold F_X11_likenessOf at hF
  refine gq_iconst hC (0 : Int32) dX11_likenessOf_0 (by decide) ?_
  refine gq_istore hC [(5, .int (0 : Int32)), (0, .ref h_t_), (1, .int x1), (2, .int x2), (3, .int x3), (4, .int x4)] dX11_likenessOf_1 (by decide) rfl ?_
  refine gq_iconst hC (0 : Int32) dX11_likenessOf_3 (by decide) ?_
  refine gq_istore hC [(6, .int (0 : Int32)), (5, .int (0 : Int32)), (0, .ref h_t_), (1, .int x1), (2, .int x2), (3, .int x3), (4, .int x4)] dX11_likenessOf_4 (by decide) rfl ?_
  refine gq_iconst hC (0 : Int32) dX11_likenessOf_6 (by decide) ?_
  refine gq_istore hC [(7, .int (0 : Int32)), (6, .int (0 : Int32)), (5, .int (0 : Int32)), (0, .ref h_t_), (1, .int x1), (2, .int x2), (3, .int x3), (4, .int x4)] dX11_likenessOf_7 (by decide) rfl ?_
  have lp9 : ∀ (e_16 : Int32) (e_17 : Int32), Gx p l e (rmD 2) s m args below meth c D A 10 Q 0 0 88 [(5, .int e_16), (6, .int e_17)] [] [(h_t_, .inr (11, [.ref h_a, .ref h_fresh, .ref h_kept, .int v_keptMany, .int v_thrown, .ref h_buffer, .int v_buffered, .int v_size, .int v_at, .int v_behind, .int v_kind, .int v_wrong, .int v_wrongAt, .int v_errorAt, .long v_number, .ref h_worthFrom, .ref h_cutsFrom, .ref h_endFrom, .ref h_changes, .ref h_waysFrom, .int v_toCut, .int v_toLeave, .ref h_costAt, .ref h_places, .ref h_isCut, .ref h_written, .int v_writtenMany])), (h_a, .inl (cJ, 499, .inr (.inl v_a)))] → ∀ (N : Nat) (l5_1 : Int32) (l6_2 : Int32) (l7_3 : Int32), wh (fun k q => S_X11_likenessOf_9 x1 x2 x3 x4 v_a k q.1 q.2.1 q.2.2) N (l5_1, l6_2, l7_3) = some (e_16, e_17) → Gx p l e (rmD 2) s m args below meth c D A 10 Q 0 0 9 [(0, .ref h_t_), (1, .int x1), (2, .int x2), (3, .int x3), (4, .int x4), (5, .int l5_1), (6, .int l6_2), (7, .int l7_3)] [] [(h_t_, .inr (11, [.ref h_a, .ref h_fresh, .ref h_kept, .int v_keptMany, .int v_thrown, .ref h_buffer, .int v_buffered, .int v_size, .int v_at, .int v_behind, .int v_kind, .int v_wrong, .int v_wrongAt, .int v_errorAt, .long v_number, .ref h_worthFrom, .ref h_cutsFrom, .ref h_endFrom, .ref h_changes, .ref h_waysFrom, .int v_toCut, .int v_toLeave, .ref h_costAt, .ref h_places, .ref h_isCut, .ref h_written, .int v_writtenMany])), (h_a, .inl (cJ, 499, .inr (.inl v_a)))] := by
    intro e_16 e_17 hx0 N
    induction N with
    | zero => intro l5_1 l6_2 l7_3 hw; exact absurd hw (wh_0 _ _ _)
    | succ N ih =>
      have jb60 : ∀ (l6_4 : Int32) (l7_5 : Int32) (l8_6 : Int32) (l9_7 : Int32) (st_8 : Int32) (st_9 : Int32), F_X11_likenessOf_b60 (wh (fun k q => S_X11_likenessOf_9 x1 x2 x3 x4 v_a k q.1 q.2.1 q.2.2) N) x1 x2 x3 x4 l6_4 l7_5 l8_6 l9_7 st_8 st_9 v_a = some (e_16, e_17) → Gx p l e (rmD 2) s m args below meth c D A 10 Q 0 0 60 [(0, .ref h_t_), (1, .int x1), (2, .int x2), (3, .int x3), (4, .int x4), (6, .int l6_4), (7, .int l7_5), (8, .int l8_6), (9, .int l9_7)] [.int st_8, .int st_9] [(h_t_, .inr (11, [.ref h_a, .ref h_fresh, .ref h_kept, .int v_keptMany, .int v_thrown, .ref h_buffer, .int v_buffered, .int v_size, .int v_at, .int v_behind, .int v_kind, .int v_wrong, .int v_wrongAt, .int v_errorAt, .long v_number, .ref h_worthFrom, .ref h_cutsFrom, .ref h_endFrom, .ref h_changes, .ref h_waysFrom, .int v_toCut, .int v_toLeave, .ref h_costAt, .ref h_places, .ref h_isCut, .ref h_written, .int v_writtenMany])), (h_a, .inl (cJ, 499, .inr (.inl v_a)))] := by
        intro l6_4 l7_5 l8_6 l9_7 st_8 st_9 hF
        unfold F_X11_likenessOf_b60 at hF
        refine gq_iadd hC dX11_likenessOf_60 ?_
        refine gq_istore hC [(5, .int (st_9 + st_8)), (0, .ref h_t_), (1, .int x1), (2, .int x2), (3, .int x3), (4, .int x4), (6, .int l6_4), (7, .int l7_5), (8, .int l8_6), (9, .int l9_7)] dX11_likenessOf_61 (by decide) rfl ?_
        refine gq_iload hC 6 dX11_likenessOf_63 rfl ?_
        refine gq_iload hC 8 dX11_likenessOf_65 rfl ?_
        refine gq_iload hC 9 dX11_likenessOf_67 rfl ?_
        refine gq_icmp_ge hC 77 dX11_likenessOf_69 (by decide) (fun hc_10 => ?_) (fun hc_10 => ?_)
        · have hF := (if_pos hc_10).symm.trans hF
          refine gq_iload hC 8 dX11_likenessOf_77 rfl ?_
          refine gq_iadd hC dX11_likenessOf_79 ?_
          refine gq_istore hC [(6, .int (l6_4 + l8_6)), (5, .int (st_9 + st_8)), (0, .ref h_t_), (1, .int x1), (2, .int x2), (3, .int x3), (4, .int x4), (7, .int l7_5), (8, .int l8_6), (9, .int l9_7)] dX11_likenessOf_80 (by decide) rfl ?_
          refine gq_iinc hC 7 (l7_5 + (1 : Int32)) [(7, .int (l7_5 + (1 : Int32))), (6, .int (l6_4 + l8_6)), (5, .int (st_9 + st_8)), (0, .ref h_t_), (1, .int x1), (2, .int x2), (3, .int x3), (4, .int x4), (8, .int l8_6), (9, .int l9_7)] dX11_likenessOf_82 rfl rfl (by decide) rfl ?_
          refine gq_goto hC 9 dX11_likenessOf_85 (by decide) ?_
          refine gq_sub [(0, .ref h_t_), (1, .int x1), (2, .int x2), (3, .int x3), (4, .int x4), (5, .int (st_9 + st_8)), (6, .int (l6_4 + l8_6)), (7, .int (l7_5 + (1 : Int32)))] [3, 4, 5, 6, 7, 2, 1, 0] rfl ?_
          exact ih (st_9 + st_8) (l6_4 + l8_6) (l7_5 + (1 : Int32)) hF
        · have hF := (if_neg hc_10).symm.trans hF
          refine gq_iload hC 9 dX11_likenessOf_72 rfl ?_
          refine gq_goto hC 79 dX11_likenessOf_74 (by decide) ?_
          refine gq_iadd hC dX11_likenessOf_79 ?_
          refine gq_istore hC [(6, .int (l6_4 + l9_7)), (5, .int (st_9 + st_8)), (0, .ref h_t_), (1, .int x1), (2, .int x2), (3, .int x3), (4, .int x4), (7, .int l7_5), (8, .int l8_6), (9, .int l9_7)] dX11_likenessOf_80 (by decide) rfl ?_
          refine gq_iinc hC 7 (l7_5 + (1 : Int32)) [(7, .int (l7_5 + (1 : Int32))), (6, .int (l6_4 + l9_7)), (5, .int (st_9 + st_8)), (0, .ref h_t_), (1, .int x1), (2, .int x2), (3, .int x3), (4, .int x4), (8, .int l8_6), (9, .int l9_7)] dX11_likenessOf_82 rfl rfl (by decide) rfl ?_
          refine gq_goto hC 9 dX11_likenessOf_85 (by decide) ?_
          refine gq_sub [(0, .ref h_t_), (1, .int x1), (2, .int x2), (3, .int x3), (4, .int x4), (5, .int (st_9 + st_8)), (6, .int (l6_4 + l9_7)), (7, .int (l7_5 + (1 : Int32)))] [3, 4, 5, 6, 7, 2, 1, 0] rfl ?_
          exact ih (st_9 + st_8) (l6_4 + l9_7) (l7_5 + (1 : Int32)) hF
      intro l5_1 l6_2 l7_3 hw
      have hF : S_X11_likenessOf_9 x1 x2 x3 x4 v_a (wh (fun k q => S_X11_likenessOf_9 x1 x2 x3 x4 v_a k q.1 q.2.1 q.2.2) N) l5_1 l6_2 l7_3 = some (e_16, e_17) := hw
      unfold S_X11_likenessOf_9 at hF
      refine gq_iload hC 7 dX11_likenessOf_9 rfl ?_
      refine gq_i2l hC dX11_likenessOf_11 ?_
      refine gq_aload_n hC 0 dX11_likenessOf_12 rfl rfl ?_
      refine gq_get hC (kf := 0) 0 hin_X11 rfl rfl (by decide) hw_9 rfl dX11_likenessOf_13 ?_
      refine gq_bipush hC (7 : Int32) dX11_likenessOf_16 (by decide) ?_
      obtain ⟨hi_11, hF⟩ := gi_e hF
      refine gq_lald hC 1 1 rfl rfl hi_11 dX11_likenessOf_18 ?_
      refine gq_lcmp hC dX11_likenessOf_19 ?_
      refine gq_if_ge hC 88 dX11_likenessOf_20 (by decide) (fun hc_15 => ?_) (fun hc_15 => ?_)
      · have hF := (if_pos hc_15).symm.trans hF
        refine gq_sub [(5, .int l5_1), (6, .int l6_2)] [5, 6] rfl ?_
        cases hF
        exact hx0
      · have hF := (if_neg hc_15).symm.trans hF
        refine gq_aload_n hC 0 dX11_likenessOf_23 rfl rfl ?_
        refine gq_iload hC 7 dX11_likenessOf_24 rfl ?_
        refine gq_iload_n hC 1 dX11_likenessOf_26 rfl rfl ?_
        refine gq_iload_n hC 2 dX11_likenessOf_27 rfl rfl ?_
        obtain ⟨r_12, hc_, hF⟩ := ob1_e hF
        refine gq_callVi hC [0, 1] [(h_t_, .inr (11, [.ref h_a, .ref h_fresh, .ref h_kept, .int v_keptMany, .int v_thrown, .ref h_buffer, .int v_buffered, .int v_size, .int v_at, .int v_behind, .int v_kind, .int v_wrong, .int v_wrongAt, .int v_errorAt, .long v_number, .ref h_worthFrom, .ref h_cutsFrom, .ref h_endFrom, .ref h_changes, .ref h_waysFrom, .int v_toCut, .int v_toLeave, .ref h_costAt, .ref h_places, .ref h_isCut, .ref h_written, .int v_writtenMany])), (h_a, .inl (cJ, 499, .inr (.inl v_a)))] [.int l7_3, .int x1, .int x2] [] (k_X11_usesIn l D cI cJ cZ cO z h_t_ h_a h_fresh h_kept h_buffer h_worthFrom h_cutsFrom h_endFrom h_changes h_waysFrom h_costAt h_places h_isCut h_written l7_3 x1 x2 v_keptMany v_thrown v_buffered v_size v_at v_behind v_kind v_wrong v_wrongAt v_errorAt v_number v_toCut v_toLeave v_writtenMany v_a r_12 hc_) gX11_likenessOf_X11_usesIn rfl ⟨rfl, rfl⟩ hy_X11_usesIn ⟨Nat.le_of_ble_eq_true rfl, Nat.le_of_ble_eq_true rfl⟩ rfl rfl rfl (q0 := 0) rfl rfl rfl (Nat.le_of_ble_eq_true rfl) rfl dX11_likenessOf_28 rfl rfl ?_
        refine gq_istore hC [(8, .int r_12), (0, .ref h_t_), (1, .int x1), (2, .int x2), (3, .int x3), (4, .int x4), (5, .int l5_1), (6, .int l6_2), (7, .int l7_3)] dX11_likenessOf_31 (by decide) rfl ?_
        refine gq_aload_n hC 1 dX11_likenessOf_33 rfl rfl ?_
        refine gq_iload hC 8 dX11_likenessOf_34 rfl ?_
        refine gq_iload_n hC 4 dX11_likenessOf_36 rfl rfl ?_
        refine gq_iload hC 5 dX11_likenessOf_37 rfl ?_
        obtain ⟨r_13, hc_, hF⟩ := ob1_e hF
        refine gq_callVi hC [0, 1] [(h_t_, .inr (11, [.ref h_a, .ref h_fresh, .ref h_kept, .int v_keptMany, .int v_thrown, .ref h_buffer, .int v_buffered, .int v_size, .int v_at, .int v_behind, .int v_kind, .int v_wrong, .int v_wrongAt, .int v_errorAt, .long v_number, .ref h_worthFrom, .ref h_cutsFrom, .ref h_endFrom, .ref h_changes, .ref h_waysFrom, .int v_toCut, .int v_toLeave, .ref h_costAt, .ref h_places, .ref h_isCut, .ref h_written, .int v_writtenMany])), (h_a, .inl (cJ, 499, .inr (.inl v_a)))] [.int l7_3, .int x3, .int x4] [] (k_X11_usesIn l D cI cJ cZ cO z h_t_ h_a h_fresh h_kept h_buffer h_worthFrom h_cutsFrom h_endFrom h_changes h_waysFrom h_costAt h_places h_isCut h_written l7_3 x3 x4 v_keptMany v_thrown v_buffered v_size v_at v_behind v_kind v_wrong v_wrongAt v_errorAt v_number v_toCut v_toLeave v_writtenMany v_a r_13 hc_) gX11_likenessOf_X11_usesIn rfl ⟨rfl, rfl⟩ hy_X11_usesIn ⟨Nat.le_of_ble_eq_true rfl, Nat.le_of_ble_eq_true rfl⟩ rfl rfl rfl (q0 := 0) rfl rfl rfl (Nat.le_of_ble_eq_true rfl) rfl dX11_likenessOf_39 rfl rfl ?_
        refine gq_istore hC [(9, .int r_13), (8, .int r_12), (0, .ref h_t_), (1, .int x1), (2, .int x2), (3, .int x3), (4, .int x4), (5, .int l5_1), (6, .int l6_2), (7, .int l7_3)] dX11_likenessOf_42 (by decide) rfl ?_
        refine gq_iload hC 7 dX11_likenessOf_44 rfl ?_
        refine gq_iload hC 1 dX11_likenessOf_46 rfl ?_
        refine gq_iload hC 0 dX11_likenessOf_48 rfl ?_
        refine gq_icmp_ge hC 58 dX11_likenessOf_50 (by decide) (fun hc_14 => ?_) (fun hc_14 => ?_)
        · have hF := (if_pos hc_14).symm.trans hF
          refine gq_iload hC 0 dX11_likenessOf_58 rfl ?_
          refine gq_sub [(0, .ref h_t_), (1, .int x1), (2, .int x2), (3, .int x3), (4, .int x4), (6, .int l6_2), (7, .int l7_3), (8, .int r_12), (9, .int r_13)] [2, 3, 4, 5, 6, 8, 9, 1, 0] rfl ?_
          exact jb60 l6_2 l7_3 r_12 r_13 r_13 l5_1 hF
        · have hF := (if_neg hc_14).symm.trans hF
          refine gq_iload hC 1 dX11_likenessOf_53 rfl ?_
          refine gq_goto hC 60 dX11_likenessOf_55 (by decide) ?_
          refine gq_sub [(0, .ref h_t_), (1, .int x1), (2, .int x2), (3, .int x3), (4, .int x4), (6, .int l6_2), (7, .int l7_3), (8, .int r_12), (9, .int r_13)] [2, 3, 4, 5, 6, 8, 9, 1, 0] rfl ?_
          exact jb60 l6_2 l7_3 r_12 r_13 r_12 l5_1 hF
  refine gq_sub [(0, .ref h_t_), (1, .int x1), (2, .int x2), (3, .int x3), (4, .int x4), (5, .int (0 : Int32)), (6, .int (0 : Int32)), (7, .int (0 : Int32))] [3, 4, 5, 6, 7, 2, 1, 0] rfl ?_
  obtain ⟨e_18, e_19, hw_, hF⟩ := ob2_e hF
  refine lp9  e_18 e_19 ?_ wF (0 : Int32) (0 : Int32) (0 : Int32) hw_
  refine gq_bipush hC (100 : Int32) dX11_likenessOf_88 (by decide) ?_
  refine gq_iload hC 0 dX11_likenessOf_90 rfl ?_
  refine gq_imul hC dX11_likenessOf_92 ?_
  refine gq_iload hC 1 dX11_likenessOf_93 rfl ?_
  obtain ⟨hz_20, hF⟩ := gzi_e hF
  refine gq_idiv hC dX11_likenessOf_95 hz_20 ?_
  cases hF
  rw [hQ]
  exact gq_iret hC rfl dX11_likenessOf_96
theorem hy_X11_changeOf : yX11_changeOf.cls = RX11 ∧ yX11_changeOf.cls ≠ "java/lang/invoke/MethodHandle" ∧ yX11_changeOf.cls ≠ "java/lang/invoke/VarHandle" ∧ (parseMethodDescriptor yX11_changeOf.desc).map (fun d => d.parameters.length) = some 1 := by decide +kernel
set_option maxRecDepth 20000 in
set_option maxHeartbeats 4000000 in
theorem k_X11_changeOf (l : Launch) (D : va_G) (cI cJ cZ cO : ClassId) (z : Nat → Nat)   (h_t_ : Nat) (h_a : Nat) (h_fresh : Nat) (h_kept : Nat) (h_buffer : Nat) (h_worthFrom : Nat) (h_cutsFrom : Nat) (h_endFrom : Nat) (h_changes : Nat) (h_waysFrom : Nat) (h_costAt : Nat) (h_places : Nat) (h_isCut : Nat) (h_written : Nat) (x1 : Int32) (v_keptMany : Int32) (v_thrown : Int32) (v_buffered : Int32) (v_size : Int32) (v_at : Int32) (v_behind : Int32) (v_kind : Int32) (v_wrong : Int32) (v_wrongAt : Int32) (v_errorAt : Int32) (v_number : Int64) (v_toCut : Int32) (v_toLeave : Int32) (v_writtenMany : Int32) (v_a : Nat → Int64) (r_ : Int32) (hF : F_X11_changeOf x1 v_a = some r_) : Mi l yX11_changeOf wsX11_changeOf (rmD 3) D (gq_ty cI cJ cZ cO) z [.ref h_t_, .int x1] [(h_t_, .inr (11, [.ref h_a, .ref h_fresh, .ref h_kept, .int v_keptMany, .int v_thrown, .ref h_buffer, .int v_buffered, .int v_size, .int v_at, .int v_behind, .int v_kind, .int v_wrong, .int v_wrongAt, .int v_errorAt, .long v_number, .ref h_worthFrom, .ref h_cutsFrom, .ref h_endFrom, .ref h_changes, .ref h_waysFrom, .int v_toCut, .int v_toLeave, .ref h_costAt, .ref h_places, .ref h_isCut, .ref h_written, .int v_writtenMany])), (h_a, .inl (cJ, 499, .inr (.inl v_a)))] r_ [(h_t_, .inr (11, [.ref h_a, .ref h_fresh, .ref h_kept, .int v_keptMany, .int v_thrown, .ref h_buffer, .int v_buffered, .int v_size, .int v_at, .int v_behind, .int v_kind, .int v_wrong, .int v_wrongAt, .int v_errorAt, .long v_number, .ref h_worthFrom, .ref h_cutsFrom, .ref h_endFrom, .ref h_changes, .ref h_waysFrom, .int v_toCut, .int v_toLeave, .ref h_costAt, .ref h_places, .ref h_isCut, .ref h_written, .int v_writtenMany])), (h_a, .inl (cJ, 499, .inr (.inl v_a)))] 0 0 := by
  refine Mi.of (cc := cX11_changeOf) (maxL := 5) (by decide) rfl (Nat.le_of_ble_eq_true rfl) ⟨Nat.le_refl 0, Nat.le_refl 0⟩ ?_
  intro p e s m args below meth c A hC ha
  have hin_X11 : ∀ w ∈ wsX110, w ∈ wsX11_changeOf := by decide +kernel
  have hw_9 : Cond.fieldLink RX11 9 (TX11 0).1 (TX11 0).2.1 (TX11 0).2.2.1 ∈ wsX11_changeOf := by decide +kernel
  obtain ⟨Q, hQ⟩ : ∃ Q, Q = gq_Qi below D A args s r_ [(h_t_, .inr (11, [.ref h_a, .ref h_fresh, .ref h_kept, .int v_keptMany, .int v_thrown, .ref h_buffer, .int v_buffered, .int v_size, .int v_at, .int v_behind, .int v_kind, .int v_wrong, .int v_wrongAt, .int v_errorAt, .long v_number, .ref h_worthFrom, .ref h_cutsFrom, .ref h_endFrom, .ref h_changes, .ref h_waysFrom, .int v_toCut, .int v_toLeave, .ref h_costAt, .ref h_places, .ref h_isCut, .ref h_written, .int v_writtenMany])), (h_a, .inl (cJ, 499, .inr (.inl v_a)))] 0 0 := ⟨_, rfl⟩
  rw [← hQ]
  refine gq_loc [(0, .ref h_t_), (1, .int x1)] rfl ?_
  have jb50 : ∀ (l3_1 : Int32) (st_2 : Int32), F_X11_changeOf_b50 x1 l3_1 st_2 v_a = some r_ → Gx p l e (rmD 3) s m args below meth c D A 5 Q 0 0 50 [(0, .ref h_t_), (1, .int x1), (3, .int l3_1)] [.int st_2] [(h_t_, .inr (11, [.ref h_a, .ref h_fresh, .ref h_kept, .int v_keptMany, .int v_thrown, .ref h_buffer, .int v_buffered, .int v_size, .int v_at, .int v_behind, .int v_kind, .int v_wrong, .int v_wrongAt, .int v_errorAt, .long v_number, .ref h_worthFrom, .ref h_cutsFrom, .ref h_endFrom, .ref h_changes, .ref h_waysFrom, .int v_toCut, .int v_toLeave, .ref h_costAt, .ref h_places, .ref h_isCut, .ref h_written, .int v_writtenMany])), (h_a, .inl (cJ, 499, .inr (.inl v_a)))] := by
    intro l3_1 st_2 hF
    unfold F_X11_changeOf_b50 at hF
    refine gq_istore hC [(4, .int st_2), (0, .ref h_t_), (1, .int x1), (3, .int l3_1)] dX11_changeOf_50 (by decide) rfl ?_
    refine gq_bipush hC (100 : Int32) dX11_changeOf_52 (by decide) ?_
    refine gq_aload_n hC 1 dX11_changeOf_54 rfl rfl ?_
    refine gq_iload_n hC 3 dX11_changeOf_55 rfl rfl ?_
    refine gq_iload_n hC 2 dX11_changeOf_56 rfl rfl ?_
    refine gq_iload_n hC 2 dX11_changeOf_57 rfl rfl ?_
    refine gq_iconst hC (1 : Int32) dX11_changeOf_58 (by decide) ?_
    refine gq_iadd hC dX11_changeOf_59 ?_
    refine gq_iload hC 0 dX11_changeOf_60 rfl ?_
    obtain ⟨r_3, hc_, hF⟩ := ob1_e hF
    refine gq_callVi hC [0, 1] [(h_t_, .inr (11, [.ref h_a, .ref h_fresh, .ref h_kept, .int v_keptMany, .int v_thrown, .ref h_buffer, .int v_buffered, .int v_size, .int v_at, .int v_behind, .int v_kind, .int v_wrong, .int v_wrongAt, .int v_errorAt, .long v_number, .ref h_worthFrom, .ref h_cutsFrom, .ref h_endFrom, .ref h_changes, .ref h_waysFrom, .int v_toCut, .int v_toLeave, .ref h_costAt, .ref h_places, .ref h_isCut, .ref h_written, .int v_writtenMany])), (h_a, .inl (cJ, 499, .inr (.inl v_a)))] [.int l3_1, .int x1, .int (x1 + (1 : Int32)), .int st_2] [.int (100 : Int32)] (k_X11_likenessOf l D cI cJ cZ cO z h_t_ h_a h_fresh h_kept h_buffer h_worthFrom h_cutsFrom h_endFrom h_changes h_waysFrom h_costAt h_places h_isCut h_written l3_1 x1 (x1 + (1 : Int32)) st_2 v_keptMany v_thrown v_buffered v_size v_at v_behind v_kind v_wrong v_wrongAt v_errorAt v_number v_toCut v_toLeave v_writtenMany v_a r_3 hc_) gX11_changeOf_X11_likenessOf rfl ⟨rfl, rfl⟩ hy_X11_likenessOf ⟨Nat.le_of_ble_eq_true rfl, Nat.le_of_ble_eq_true rfl⟩ rfl rfl rfl (q0 := 0) rfl rfl rfl (Nat.le_of_ble_eq_true rfl) rfl dX11_changeOf_62 rfl rfl ?_
    refine gq_isub hC dX11_changeOf_65 ?_
    cases hF
    rw [hQ]
    exact gq_iret hC rfl dX11_changeOf_66
  have jb25 : ∀ (l2_4 : Int32) (st_5 : Int32), F_X11_changeOf_b25 x1 l2_4 st_5 v_a = some r_ → Gx p l e (rmD 3) s m args below meth c D A 5 Q 0 0 25 [(0, .ref h_t_), (1, .int x1), (2, .int l2_4)] [.int st_5] [(h_t_, .inr (11, [.ref h_a, .ref h_fresh, .ref h_kept, .int v_keptMany, .int v_thrown, .ref h_buffer, .int v_buffered, .int v_size, .int v_at, .int v_behind, .int v_kind, .int v_wrong, .int v_wrongAt, .int v_errorAt, .long v_number, .ref h_worthFrom, .ref h_cutsFrom, .ref h_endFrom, .ref h_changes, .ref h_waysFrom, .int v_toCut, .int v_toLeave, .ref h_costAt, .ref h_places, .ref h_isCut, .ref h_written, .int v_writtenMany])), (h_a, .inl (cJ, 499, .inr (.inl v_a)))] := by
    intro l2_4 st_5 hF
    unfold F_X11_changeOf_b25 at hF
    refine gq_istore_n hC [(3, .int st_5), (0, .ref h_t_), (1, .int x1), (2, .int l2_4)] dX11_changeOf_25 rfl (by decide) rfl ?_
    refine gq_iload_n hC 2 dX11_changeOf_26 rfl rfl ?_
    refine gq_iload_n hC 3 dX11_changeOf_27 rfl rfl ?_
    refine gq_iadd hC dX11_changeOf_28 ?_
    refine gq_aload_n hC 1 dX11_changeOf_29 rfl rfl ?_
    obtain ⟨r_6, hc_, hF⟩ := ob1_e hF
    refine gq_callVi hC [0, 1] [(h_t_, .inr (11, [.ref h_a, .ref h_fresh, .ref h_kept, .int v_keptMany, .int v_thrown, .ref h_buffer, .int v_buffered, .int v_size, .int v_at, .int v_behind, .int v_kind, .int v_wrong, .int v_wrongAt, .int v_errorAt, .long v_number, .ref h_worthFrom, .ref h_cutsFrom, .ref h_endFrom, .ref h_changes, .ref h_waysFrom, .int v_toCut, .int v_toLeave, .ref h_costAt, .ref h_places, .ref h_isCut, .ref h_written, .int v_writtenMany])), (h_a, .inl (cJ, 499, .inr (.inl v_a)))] [] [.int (x1 + l2_4)] (k_X11_many l D cI cJ cZ cO z h_t_ h_a h_fresh h_kept h_buffer h_worthFrom h_cutsFrom h_endFrom h_changes h_waysFrom h_costAt h_places h_isCut h_written v_keptMany v_thrown v_buffered v_size v_at v_behind v_kind v_wrong v_wrongAt v_errorAt v_number v_toCut v_toLeave v_writtenMany v_a r_6 hc_) gX11_changeOf_X11_many rfl ⟨rfl, rfl⟩ hy_X11_many ⟨Nat.le_of_ble_eq_true rfl, Nat.le_of_ble_eq_true rfl⟩ rfl rfl rfl (q0 := 0) rfl rfl rfl (Nat.le_of_ble_eq_true rfl) rfl dX11_changeOf_30 rfl rfl ?_
    refine gq_iconst hC (1 : Int32) dX11_changeOf_33 (by decide) ?_
    refine gq_isub hC dX11_changeOf_34 ?_
    refine gq_icmp_ge hC 44 dX11_changeOf_35 (by decide) (fun hc_8 => ?_) (fun hc_8 => ?_)
    · have hF := (if_pos hc_8).symm.trans hF
      refine gq_aload_n hC 1 dX11_changeOf_44 rfl rfl ?_
      obtain ⟨r_7, hc_, hF⟩ := ob1_e hF
      refine gq_callVi hC [0, 1] [(h_t_, .inr (11, [.ref h_a, .ref h_fresh, .ref h_kept, .int v_keptMany, .int v_thrown, .ref h_buffer, .int v_buffered, .int v_size, .int v_at, .int v_behind, .int v_kind, .int v_wrong, .int v_wrongAt, .int v_errorAt, .long v_number, .ref h_worthFrom, .ref h_cutsFrom, .ref h_endFrom, .ref h_changes, .ref h_waysFrom, .int v_toCut, .int v_toLeave, .ref h_costAt, .ref h_places, .ref h_isCut, .ref h_written, .int v_writtenMany])), (h_a, .inl (cJ, 499, .inr (.inl v_a)))] [] [] (k_X11_many l D cI cJ cZ cO z h_t_ h_a h_fresh h_kept h_buffer h_worthFrom h_cutsFrom h_endFrom h_changes h_waysFrom h_costAt h_places h_isCut h_written v_keptMany v_thrown v_buffered v_size v_at v_behind v_kind v_wrong v_wrongAt v_errorAt v_number v_toCut v_toLeave v_writtenMany v_a r_7 hc_) gX11_changeOf_X11_many rfl ⟨rfl, rfl⟩ hy_X11_many ⟨Nat.le_of_ble_eq_true rfl, Nat.le_of_ble_eq_true rfl⟩ rfl rfl rfl (q0 := 0) rfl rfl rfl (Nat.le_of_ble_eq_true rfl) rfl dX11_changeOf_45 rfl rfl ?_
      refine gq_iconst hC (1 : Int32) dX11_changeOf_48 (by decide) ?_
      refine gq_isub hC dX11_changeOf_49 ?_
      refine gq_sub [(0, .ref h_t_), (1, .int x1), (3, .int st_5)] [1, 2, 0] rfl ?_
      exact jb50 st_5 (r_7 - (1 : Int32)) hF
    · have hF := (if_neg hc_8).symm.trans hF
      refine gq_iload_n hC 2 dX11_changeOf_38 rfl rfl ?_
      refine gq_iload_n hC 3 dX11_changeOf_39 rfl rfl ?_
      refine gq_iadd hC dX11_changeOf_40 ?_
      refine gq_goto hC 50 dX11_changeOf_41 (by decide) ?_
      refine gq_sub [(0, .ref h_t_), (1, .int x1), (3, .int st_5)] [1, 2, 0] rfl ?_
      exact jb50 st_5 (x1 + l2_4) hF
  unfold F_X11_changeOf at hF
  refine gq_aload_n hC 0 dX11_changeOf_0 rfl rfl ?_
  refine gq_get hC (kf := 0) 0 hin_X11 rfl rfl (by decide) hw_9 rfl dX11_changeOf_1 ?_
  refine gq_iconst hC (2 : Int32) dX11_changeOf_4 (by decide) ?_
  obtain ⟨hi_9, hF⟩ := gi_e hF
  refine gq_lald hC 1 1 rfl rfl hi_9 dX11_changeOf_5 ?_
  refine gq_l2i hC dX11_changeOf_6 ?_
  refine gq_istore_n hC [(2, .int ((v_a (2 : Int32).toNatClampNeg).toInt32)), (0, .ref h_t_), (1, .int x1)] dX11_changeOf_7 rfl (by decide) rfl ?_
  refine gq_iload_n hC 2 dX11_changeOf_8 rfl rfl ?_
  refine gq_iload_n hC 0 dX11_changeOf_9 rfl rfl ?_
  refine gq_isub hC dX11_changeOf_10 ?_
  refine gq_iconst hC (1 : Int32) dX11_changeOf_11 (by decide) ?_
  refine gq_iadd hC dX11_changeOf_12 ?_
  refine gq_if_le hC 24 dX11_changeOf_13 (by decide) (fun hc_10 => ?_) (fun hc_10 => ?_)
  · have hF := (if_pos hc_10).symm.trans hF
    refine gq_iconst hC (0 : Int32) dX11_changeOf_24 (by decide) ?_
    refine gq_sub [(0, .ref h_t_), (1, .int x1), (2, .int ((v_a (2 : Int32).toNatClampNeg).toInt32))] [1, 2, 0] rfl ?_
    exact jb25 ((v_a (2 : Int32).toNatClampNeg).toInt32) (0 : Int32) hF
  · have hF := (if_neg hc_10).symm.trans hF
    refine gq_iload_n hC 2 dX11_changeOf_16 rfl rfl ?_
    refine gq_iload_n hC 0 dX11_changeOf_17 rfl rfl ?_
    refine gq_isub hC dX11_changeOf_18 ?_
    refine gq_iconst hC (1 : Int32) dX11_changeOf_19 (by decide) ?_
    refine gq_iadd hC dX11_changeOf_20 ?_
    refine gq_goto hC 25 dX11_changeOf_21 (by decide) ?_
    refine gq_sub [(0, .ref h_t_), (1, .int x1), (2, .int ((v_a (2 : Int32).toNatClampNeg).toInt32))] [1, 2, 0] rfl ?_
    exact jb25 ((v_a (2 : Int32).toNatClampNeg).toInt32) ((x1 - ((v_a (2 : Int32).toNatClampNeg).toInt32)) + (1 : Int32)) hF
theorem hy_X11_isChapter : yX11_isChapter.cls = RX11 ∧ yX11_isChapter.cls ≠ "java/lang/invoke/MethodHandle" ∧ yX11_isChapter.cls ≠ "java/lang/invoke/VarHandle" ∧ (parseMethodDescriptor yX11_isChapter.desc).map (fun d => d.parameters.length) = some 2 := by decide +kernel
set_option maxRecDepth 20000 in
set_option maxHeartbeats 4000000 in
theorem k_X11_isChapter (l : Launch) (D : va_G) (cI cJ cZ cO : ClassId) (z : Nat → Nat)   (h_t_ : Nat) (h_a : Nat) (h_fresh : Nat) (h_kept : Nat) (h_buffer : Nat) (h_worthFrom : Nat) (h_cutsFrom : Nat) (h_endFrom : Nat) (h_changes : Nat) (h_waysFrom : Nat) (h_costAt : Nat) (h_places : Nat) (h_isCut : Nat) (h_written : Nat) (x1 : Int32) (x2 : Int32) (v_keptMany : Int32) (v_thrown : Int32) (v_buffered : Int32) (v_size : Int32) (v_at : Int32) (v_behind : Int32) (v_kind : Int32) (v_wrong : Int32) (v_wrongAt : Int32) (v_errorAt : Int32) (v_number : Int64) (v_toCut : Int32) (v_toLeave : Int32) (v_writtenMany : Int32) (v_a : Nat → Int64) (r_ : Int32) (hF : F_X11_isChapter x1 x2 v_toCut v_toLeave v_a = some r_) : Mi l yX11_isChapter wsX11_isChapter (rmD 2) D (gq_ty cI cJ cZ cO) z [.ref h_t_, .int x1, .int x2] [(h_t_, .inr (11, [.ref h_a, .ref h_fresh, .ref h_kept, .int v_keptMany, .int v_thrown, .ref h_buffer, .int v_buffered, .int v_size, .int v_at, .int v_behind, .int v_kind, .int v_wrong, .int v_wrongAt, .int v_errorAt, .long v_number, .ref h_worthFrom, .ref h_cutsFrom, .ref h_endFrom, .ref h_changes, .ref h_waysFrom, .int v_toCut, .int v_toLeave, .ref h_costAt, .ref h_places, .ref h_isCut, .ref h_written, .int v_writtenMany])), (h_a, .inl (cJ, 499, .inr (.inl v_a)))] r_ [(h_t_, .inr (11, [.ref h_a, .ref h_fresh, .ref h_kept, .int v_keptMany, .int v_thrown, .ref h_buffer, .int v_buffered, .int v_size, .int v_at, .int v_behind, .int v_kind, .int v_wrong, .int v_wrongAt, .int v_errorAt, .long v_number, .ref h_worthFrom, .ref h_cutsFrom, .ref h_endFrom, .ref h_changes, .ref h_waysFrom, .int v_toCut, .int v_toLeave, .ref h_costAt, .ref h_places, .ref h_isCut, .ref h_written, .int v_writtenMany])), (h_a, .inl (cJ, 499, .inr (.inl v_a)))] 0 0 := by
  refine Mi.of (cc := cX11_isChapter) (maxL := 3) (by decide) rfl (Nat.le_of_ble_eq_true rfl) ⟨Nat.le_refl 0, Nat.le_refl 0⟩ ?_
  intro p e s m args below meth c A hC ha
  have hin_X11 : ∀ w ∈ wsX110, w ∈ wsX11_isChapter := by decide +kernel
  have hw_9 : Cond.fieldLink RX11 9 (TX11 0).1 (TX11 0).2.1 (TX11 0).2.2.1 ∈ wsX11_isChapter := by decide +kernel
  have hw_42 : Cond.fieldLink RX11 42 (TX11 20).1 (TX11 20).2.1 (TX11 20).2.2.1 ∈ wsX11_isChapter := by decide +kernel
  have hw_45 : Cond.fieldLink RX11 45 (TX11 21).1 (TX11 21).2.1 (TX11 21).2.2.1 ∈ wsX11_isChapter := by decide +kernel
  obtain ⟨Q, hQ⟩ : ∃ Q, Q = gq_Qi below D A args s r_ [(h_t_, .inr (11, [.ref h_a, .ref h_fresh, .ref h_kept, .int v_keptMany, .int v_thrown, .ref h_buffer, .int v_buffered, .int v_size, .int v_at, .int v_behind, .int v_kind, .int v_wrong, .int v_wrongAt, .int v_errorAt, .long v_number, .ref h_worthFrom, .ref h_cutsFrom, .ref h_endFrom, .ref h_changes, .ref h_waysFrom, .int v_toCut, .int v_toLeave, .ref h_costAt, .ref h_places, .ref h_isCut, .ref h_written, .int v_writtenMany])), (h_a, .inl (cJ, 499, .inr (.inl v_a)))] 0 0 := ⟨_, rfl⟩
  rw [← hQ]
  refine gq_loc [(0, .ref h_t_), (1, .int x1), (2, .int x2)] rfl ?_
  have jb42 : F_X11_isChapter_b42 x1 x2 v_a = some r_ → Gx p l e (rmD 2) s m args below meth c D A 3 Q 0 0 42 [(0, .ref h_t_), (1, .int x1), (2, .int x2)] [] [(h_t_, .inr (11, [.ref h_a, .ref h_fresh, .ref h_kept, .int v_keptMany, .int v_thrown, .ref h_buffer, .int v_buffered, .int v_size, .int v_at, .int v_behind, .int v_kind, .int v_wrong, .int v_wrongAt, .int v_errorAt, .long v_number, .ref h_worthFrom, .ref h_cutsFrom, .ref h_endFrom, .ref h_changes, .ref h_waysFrom, .int v_toCut, .int v_toLeave, .ref h_costAt, .ref h_places, .ref h_isCut, .ref h_written, .int v_writtenMany])), (h_a, .inl (cJ, 499, .inr (.inl v_a)))] := by
    intro  hF
    unfold F_X11_isChapter_b42 at hF
    refine gq_aload_n hC 0 dX11_isChapter_42 rfl rfl ?_
    refine gq_iload_n hC 2 dX11_isChapter_43 rfl rfl ?_
    refine gq_iconst hC (1 : Int32) dX11_isChapter_44 (by decide) ?_
    refine gq_iadd hC dX11_isChapter_45 ?_
    obtain ⟨r_1, hc_, hF⟩ := ob1_e hF
    refine gq_callVi hC [0, 1] [(h_t_, .inr (11, [.ref h_a, .ref h_fresh, .ref h_kept, .int v_keptMany, .int v_thrown, .ref h_buffer, .int v_buffered, .int v_size, .int v_at, .int v_behind, .int v_kind, .int v_wrong, .int v_wrongAt, .int v_errorAt, .long v_number, .ref h_worthFrom, .ref h_cutsFrom, .ref h_endFrom, .ref h_changes, .ref h_waysFrom, .int v_toCut, .int v_toLeave, .ref h_costAt, .ref h_places, .ref h_isCut, .ref h_written, .int v_writtenMany])), (h_a, .inl (cJ, 499, .inr (.inl v_a)))] [.int (x2 + (1 : Int32))] [] (k_X11_spoken l D cI cJ cZ cO z h_t_ h_a h_fresh h_kept h_buffer h_worthFrom h_cutsFrom h_endFrom h_changes h_waysFrom h_costAt h_places h_isCut h_written (x2 + (1 : Int32)) v_keptMany v_thrown v_buffered v_size v_at v_behind v_kind v_wrong v_wrongAt v_errorAt v_number v_toCut v_toLeave v_writtenMany v_a r_1 hc_) gX11_isChapter_X11_spoken rfl ⟨rfl, rfl⟩ hy_X11_spoken ⟨Nat.le_of_ble_eq_true rfl, Nat.le_of_ble_eq_true rfl⟩ rfl rfl rfl (q0 := 0) rfl rfl rfl (Nat.le_of_ble_eq_true rfl) rfl dX11_isChapter_46 rfl rfl ?_
    refine gq_aload_n hC 0 dX11_isChapter_49 rfl rfl ?_
    refine gq_iload_n hC 1 dX11_isChapter_50 rfl rfl ?_
    obtain ⟨r_2, hc_, hF⟩ := ob1_e hF
    refine gq_callVi hC [0, 1] [(h_t_, .inr (11, [.ref h_a, .ref h_fresh, .ref h_kept, .int v_keptMany, .int v_thrown, .ref h_buffer, .int v_buffered, .int v_size, .int v_at, .int v_behind, .int v_kind, .int v_wrong, .int v_wrongAt, .int v_errorAt, .long v_number, .ref h_worthFrom, .ref h_cutsFrom, .ref h_endFrom, .ref h_changes, .ref h_waysFrom, .int v_toCut, .int v_toLeave, .ref h_costAt, .ref h_places, .ref h_isCut, .ref h_written, .int v_writtenMany])), (h_a, .inl (cJ, 499, .inr (.inl v_a)))] [.int x1] [.int r_1] (k_X11_spoken l D cI cJ cZ cO z h_t_ h_a h_fresh h_kept h_buffer h_worthFrom h_cutsFrom h_endFrom h_changes h_waysFrom h_costAt h_places h_isCut h_written x1 v_keptMany v_thrown v_buffered v_size v_at v_behind v_kind v_wrong v_wrongAt v_errorAt v_number v_toCut v_toLeave v_writtenMany v_a r_2 hc_) gX11_isChapter_X11_spoken rfl ⟨rfl, rfl⟩ hy_X11_spoken ⟨Nat.le_of_ble_eq_true rfl, Nat.le_of_ble_eq_true rfl⟩ rfl rfl rfl (q0 := 0) rfl rfl rfl (Nat.le_of_ble_eq_true rfl) rfl dX11_isChapter_51 rfl rfl ?_
    refine gq_isub hC dX11_isChapter_54 ?_
    refine gq_i2l hC dX11_isChapter_55 ?_
    refine gq_aload_n hC 0 dX11_isChapter_56 rfl rfl ?_
    refine gq_get hC (kf := 0) 0 hin_X11 rfl rfl (by decide) hw_9 rfl dX11_isChapter_57 ?_
    refine gq_iconst hC (0 : Int32) dX11_isChapter_60 (by decide) ?_
    obtain ⟨hi_3, hF⟩ := gi_e hF
    refine gq_lald hC 1 1 rfl rfl hi_3 dX11_isChapter_61 ?_
    refine gq_aload_n hC 0 dX11_isChapter_62 rfl rfl ?_
    refine gq_get hC (kf := 0) 0 hin_X11 rfl rfl (by decide) hw_9 rfl dX11_isChapter_63 ?_
    refine gq_iconst hC (1 : Int32) dX11_isChapter_66 (by decide) ?_
    obtain ⟨hi_4, hF⟩ := gi_e hF
    refine gq_lald hC 1 1 rfl rfl hi_4 dX11_isChapter_67 ?_
    obtain ⟨r_5, hc_, hF⟩ := ob1_e hF
    refine gq_callSi hC [] [(h_t_, .inr (11, [.ref h_a, .ref h_fresh, .ref h_kept, .int v_keptMany, .int v_thrown, .ref h_buffer, .int v_buffered, .int v_size, .int v_at, .int v_behind, .int v_kind, .int v_wrong, .int v_wrongAt, .int v_errorAt, .long v_number, .ref h_worthFrom, .ref h_cutsFrom, .ref h_endFrom, .ref h_changes, .ref h_waysFrom, .int v_toCut, .int v_toLeave, .ref h_costAt, .ref h_places, .ref h_isCut, .ref h_written, .int v_writtenMany])), (h_a, .inl (cJ, 499, .inr (.inl v_a)))] [.long ((r_1 - r_2).toInt64), .long (v_a (0 : Int32).toNatClampNeg), .long (v_a (1 : Int32).toNatClampNeg)] [] (k_X11_isIn l D cI cJ cZ cO z  ((r_1 - r_2).toInt64) (v_a (0 : Int32).toNatClampNeg) (v_a (1 : Int32).toNatClampNeg) r_5 hc_) gX11_isChapter_X11_isIn rfl ⟨rfl, rfl⟩ hy_X11_isIn rfl ⟨Nat.le_of_ble_eq_true rfl, Nat.le_of_ble_eq_true rfl⟩ rfl rfl rfl (Nat.le_of_ble_eq_true rfl) rfl dX11_isChapter_68 rfl rfl ?_
    obtain ⟨hb_6, hF⟩ := gb_e hF
    cases hF
    rw [hQ]
    exact gq_iret hC (gb_n hb_6) dX11_isChapter_71
  have jb24 : F_X11_isChapter_b24 x1 x2 v_toLeave v_a = some r_ → Gx p l e (rmD 2) s m args below meth c D A 3 Q 0 0 24 [(0, .ref h_t_), (1, .int x1), (2, .int x2)] [] [(h_t_, .inr (11, [.ref h_a, .ref h_fresh, .ref h_kept, .int v_keptMany, .int v_thrown, .ref h_buffer, .int v_buffered, .int v_size, .int v_at, .int v_behind, .int v_kind, .int v_wrong, .int v_wrongAt, .int v_errorAt, .long v_number, .ref h_worthFrom, .ref h_cutsFrom, .ref h_endFrom, .ref h_changes, .ref h_waysFrom, .int v_toCut, .int v_toLeave, .ref h_costAt, .ref h_places, .ref h_isCut, .ref h_written, .int v_writtenMany])), (h_a, .inl (cJ, 499, .inr (.inl v_a)))] := by
    intro  hF
    unfold F_X11_isChapter_b24 at hF
    refine gq_aload_n hC 0 dX11_isChapter_24 rfl rfl ?_
    refine gq_get hC (kf := 21) 0 hin_X11 rfl rfl (by decide) hw_45 rfl dX11_isChapter_25 ?_
    refine gq_iconst hC (-1 : Int32) dX11_isChapter_28 (by decide) ?_
    refine gq_icmp_eq hC 42 dX11_isChapter_29 (by decide) (fun hc_8 => ?_) (fun hc_8 => ?_)
    · have hF := (if_pos hc_8).symm.trans hF
      exact jb42  hF
    · have hF := (if_neg hc_8).symm.trans hF
      refine gq_iload_n hC 2 dX11_isChapter_32 rfl rfl ?_
      refine gq_aload_n hC 0 dX11_isChapter_33 rfl rfl ?_
      refine gq_get hC (kf := 21) 0 hin_X11 rfl rfl (by decide) hw_45 rfl dX11_isChapter_34 ?_
      refine gq_icmp_ne hC 42 dX11_isChapter_37 (by decide) (fun hc_7 => ?_) (fun hc_7 => ?_)
      · have hF := (if_neg hc_7).symm.trans hF
        exact jb42  hF
      · have hF := (if_pos hc_7).symm.trans hF
        refine gq_iconst hC (0 : Int32) dX11_isChapter_40 (by decide) ?_
        cases hF
        rw [hQ]
        exact gq_iret hC rfl dX11_isChapter_41
  unfold F_X11_isChapter at hF
  refine gq_aload_n hC 0 dX11_isChapter_0 rfl rfl ?_
  refine gq_get hC (kf := 20) 0 hin_X11 rfl rfl (by decide) hw_42 rfl dX11_isChapter_1 ?_
  refine gq_iconst hC (-1 : Int32) dX11_isChapter_4 (by decide) ?_
  refine gq_icmp_eq hC 24 dX11_isChapter_5 (by decide) (fun hc_11 => ?_) (fun hc_11 => ?_)
  · have hF := (if_pos hc_11).symm.trans hF
    exact jb24  hF
  · have hF := (if_neg hc_11).symm.trans hF
    refine gq_iload_n hC 1 dX11_isChapter_8 rfl rfl ?_
    refine gq_aload_n hC 0 dX11_isChapter_9 rfl rfl ?_
    refine gq_get hC (kf := 20) 0 hin_X11 rfl rfl (by decide) hw_42 rfl dX11_isChapter_10 ?_
    refine gq_icmp_gt hC 24 dX11_isChapter_13 (by decide) (fun hc_10 => ?_) (fun hc_10 => ?_)
    · have hF := (if_pos hc_10).symm.trans hF
      exact jb24  hF
    · have hF := (if_neg hc_10).symm.trans hF
      refine gq_aload_n hC 0 dX11_isChapter_16 rfl rfl ?_
      refine gq_get hC (kf := 20) 0 hin_X11 rfl rfl (by decide) hw_42 rfl dX11_isChapter_17 ?_
      refine gq_iload_n hC 2 dX11_isChapter_20 rfl rfl ?_
      refine gq_icmp_lt hC 40 dX11_isChapter_21 (by decide) (fun hc_9 => ?_) (fun hc_9 => ?_)
      · have hF := (if_pos hc_9).symm.trans hF
        refine gq_iconst hC (0 : Int32) dX11_isChapter_40 (by decide) ?_
        cases hF
        rw [hQ]
        exact gq_iret hC rfl dX11_isChapter_41
      · have hF := (if_neg hc_9).symm.trans hF
        exact jb24  hF
theorem hy_X11_tries : yX11_tries.cls = RX11 ∧ yX11_tries.cls ≠ "java/lang/invoke/MethodHandle" ∧ yX11_tries.cls ≠ "java/lang/invoke/VarHandle" ∧ (parseMethodDescriptor yX11_tries.desc).map (fun d => d.parameters.length) = some 3 := by decide +kernel
set_option maxRecDepth 20000 in
set_option maxHeartbeats 4000000 in
theorem k_X11_tries (l : Launch) (D : va_G) (cI cJ cZ cO : ClassId) (z : Nat → Nat)   (h_t_ : Nat) (h_a : Nat) (h_worthFrom : Nat) (h_cutsFrom : Nat) (h_endFrom : Nat) (h_changes : Nat) (h_waysFrom : Nat) (h_fresh : Nat) (h_kept : Nat) (h_buffer : Nat) (h_costAt : Nat) (h_places : Nat) (h_isCut : Nat) (h_written : Nat) (x1 : Int32) (x2 : Int32) (x3 : Int32) (v_keptMany : Int32) (v_thrown : Int32) (v_buffered : Int32) (v_size : Int32) (v_at : Int32) (v_behind : Int32) (v_kind : Int32) (v_wrong : Int32) (v_wrongAt : Int32) (v_errorAt : Int32) (v_number : Int64) (v_toCut : Int32) (v_toLeave : Int32) (v_writtenMany : Int32) (v_a : Nat → Int64) (v_worthFrom : Nat → Int32) (v_cutsFrom : Nat → Int32) (v_endFrom : Nat → Int32) (v_changes : Nat → Int32) (v_waysFrom : Nat → Int64) (w_worthFrom : Nat → Int32) (w_cutsFrom : Nat → Int32) (w_endFrom : Nat → Int32) (w_waysFrom : Nat → Int64) (hF : F_X11_tries x1 x2 x3 v_a v_worthFrom v_cutsFrom v_endFrom v_changes v_waysFrom = some (w_worthFrom, w_cutsFrom, w_endFrom, w_waysFrom)) : Mv l yX11_tries wsX11_tries (rmD 0) D (gq_ty cI cJ cZ cO) z [.ref h_t_, .int x1, .int x2, .int x3] [(h_t_, .inr (11, [.ref h_a, .ref h_fresh, .ref h_kept, .int v_keptMany, .int v_thrown, .ref h_buffer, .int v_buffered, .int v_size, .int v_at, .int v_behind, .int v_kind, .int v_wrong, .int v_wrongAt, .int v_errorAt, .long v_number, .ref h_worthFrom, .ref h_cutsFrom, .ref h_endFrom, .ref h_changes, .ref h_waysFrom, .int v_toCut, .int v_toLeave, .ref h_costAt, .ref h_places, .ref h_isCut, .ref h_written, .int v_writtenMany])), (h_a, .inl (cJ, 499, .inr (.inl v_a))), (h_worthFrom, .inl (cI, 33, .inl v_worthFrom)), (h_cutsFrom, .inl (cI, 33, .inl v_cutsFrom)), (h_endFrom, .inl (cI, 33, .inl v_endFrom)), (h_changes, .inl (cI, 32, .inl v_changes)), (h_waysFrom, .inl (cJ, 33, .inr (.inl v_waysFrom)))] [(h_t_, .inr (11, [.ref h_a, .ref h_fresh, .ref h_kept, .int v_keptMany, .int v_thrown, .ref h_buffer, .int v_buffered, .int v_size, .int v_at, .int v_behind, .int v_kind, .int v_wrong, .int v_wrongAt, .int v_errorAt, .long v_number, .ref h_worthFrom, .ref h_cutsFrom, .ref h_endFrom, .ref h_changes, .ref h_waysFrom, .int v_toCut, .int v_toLeave, .ref h_costAt, .ref h_places, .ref h_isCut, .ref h_written, .int v_writtenMany])), (h_a, .inl (cJ, 499, .inr (.inl v_a))), (h_worthFrom, .inl (cI, 33, .inl w_worthFrom)), (h_cutsFrom, .inl (cI, 33, .inl w_cutsFrom)), (h_endFrom, .inl (cI, 33, .inl w_endFrom)), (h_changes, .inl (cI, 32, .inl v_changes)), (h_waysFrom, .inl (cJ, 33, .inr (.inl w_waysFrom)))] 0 0 := by
  refine Mv.of (cc := cX11_tries) (maxL := 8) (by decide) rfl (Nat.le_of_ble_eq_true rfl) ⟨Nat.le_refl 0, Nat.le_refl 0⟩ ?_
  intro p e s m args below meth c A hC ha
  have hin_X11 : ∀ w ∈ wsX110, w ∈ wsX11_tries := by decide +kernel
  have hw_9 : Cond.fieldLink RX11 9 (TX11 0).1 (TX11 0).2.1 (TX11 0).2.2.1 ∈ wsX11_tries := by decide +kernel
  have hw_27 : Cond.fieldLink RX11 27 (TX11 15).1 (TX11 15).2.1 (TX11 15).2.2.1 ∈ wsX11_tries := by decide +kernel
  have hw_30 : Cond.fieldLink RX11 30 (TX11 16).1 (TX11 16).2.1 (TX11 16).2.2.1 ∈ wsX11_tries := by decide +kernel
  have hw_33 : Cond.fieldLink RX11 33 (TX11 17).1 (TX11 17).2.1 (TX11 17).2.2.1 ∈ wsX11_tries := by decide +kernel
  have hw_36 : Cond.fieldLink RX11 36 (TX11 18).1 (TX11 18).2.1 (TX11 18).2.2.1 ∈ wsX11_tries := by decide +kernel
  have hw_39 : Cond.fieldLink RX11 39 (TX11 19).1 (TX11 19).2.1 (TX11 19).2.2.1 ∈ wsX11_tries := by decide +kernel
  obtain ⟨Q, hQ⟩ : ∃ Q, Q = gq_Qv below D A args s [(h_t_, .inr (11, [.ref h_a, .ref h_fresh, .ref h_kept, .int v_keptMany, .int v_thrown, .ref h_buffer, .int v_buffered, .int v_size, .int v_at, .int v_behind, .int v_kind, .int v_wrong, .int v_wrongAt, .int v_errorAt, .long v_number, .ref h_worthFrom, .ref h_cutsFrom, .ref h_endFrom, .ref h_changes, .ref h_waysFrom, .int v_toCut, .int v_toLeave, .ref h_costAt, .ref h_places, .ref h_isCut, .ref h_written, .int v_writtenMany])), (h_a, .inl (cJ, 499, .inr (.inl v_a))), (h_worthFrom, .inl (cI, 33, .inl w_worthFrom)), (h_cutsFrom, .inl (cI, 33, .inl w_cutsFrom)), (h_endFrom, .inl (cI, 33, .inl w_endFrom)), (h_changes, .inl (cI, 32, .inl v_changes)), (h_waysFrom, .inl (cJ, 33, .inr (.inl w_waysFrom)))] 0 0 := ⟨_, rfl⟩
  rw [← hQ]
  refine gq_loc [(0, .ref h_t_), (1, .int x1), (2, .int x2), (3, .int x3)] rfl ?_
  have jb165 : ∀ (l5_1 : Int32) (l6_2 : Int32) (st_3 : Int32) (v_worthFrom_4 : Nat → Int32) (v_cutsFrom_5 : Nat → Int32) (v_endFrom_6 : Nat → Int32) (v_waysFrom_7 : Nat → Int64), F_X11_tries_b165 x1 x2 l5_1 l6_2 st_3 v_worthFrom_4 v_cutsFrom_5 v_endFrom_6 v_waysFrom_7 = some (w_worthFrom, w_cutsFrom, w_endFrom, w_waysFrom) → Gx p l e (rmD 0) s m args below meth c D A 8 Q 0 0 165 [(0, .ref h_t_), (1, .int x1), (2, .int x2), (5, .int l5_1), (6, .int l6_2)] [.int st_3] [(h_t_, .inr (11, [.ref h_a, .ref h_fresh, .ref h_kept, .int v_keptMany, .int v_thrown, .ref h_buffer, .int v_buffered, .int v_size, .int v_at, .int v_behind, .int v_kind, .int v_wrong, .int v_wrongAt, .int v_errorAt, .long v_number, .ref h_worthFrom, .ref h_cutsFrom, .ref h_endFrom, .ref h_changes, .ref h_waysFrom, .int v_toCut, .int v_toLeave, .ref h_costAt, .ref h_places, .ref h_isCut, .ref h_written, .int v_writtenMany])), (h_a, .inl (cJ, 499, .inr (.inl v_a))), (h_worthFrom, .inl (cI, 33, .inl v_worthFrom_4)), (h_cutsFrom, .inl (cI, 33, .inl v_cutsFrom_5)), (h_endFrom, .inl (cI, 33, .inl v_endFrom_6)), (h_changes, .inl (cI, 32, .inl v_changes)), (h_waysFrom, .inl (cJ, 33, .inr (.inl v_waysFrom_7)))] := by
    intro l5_1 l6_2 st_3 v_worthFrom_4 v_cutsFrom_5 v_endFrom_6 v_waysFrom_7 hF
    unfold F_X11_tries_b165 at hF
    refine gq_istore hC [(7, .int st_3), (0, .ref h_t_), (1, .int x1), (2, .int x2), (5, .int l5_1), (6, .int l6_2)] dX11_tries_165 (by decide) rfl ?_
    refine gq_iload hC 0 dX11_tries_167 rfl ?_
    refine gq_if_ne hC 173 dX11_tries_169 (by decide) (fun hc_11 => ?_) (fun hc_11 => ?_)
    · have hF := (if_neg hc_11).symm.trans hF
      refine gq_aload_n hC 1 dX11_tries_173 rfl rfl ?_
      refine gq_get hC (kf := 15) 0 hin_X11 rfl rfl (by decide) hw_27 rfl dX11_tries_174 ?_
      refine gq_iload_n hC 2 dX11_tries_177 rfl rfl ?_
      refine gq_iload hC 4 dX11_tries_178 rfl ?_
      obtain ⟨hi_8, hF⟩ := gi_e hF
      refine gq_iast hC 2 0 [(h_t_, .inr (11, [.ref h_a, .ref h_fresh, .ref h_kept, .int v_keptMany, .int v_thrown, .ref h_buffer, .int v_buffered, .int v_size, .int v_at, .int v_behind, .int v_kind, .int v_wrong, .int v_wrongAt, .int v_errorAt, .long v_number, .ref h_worthFrom, .ref h_cutsFrom, .ref h_endFrom, .ref h_changes, .ref h_waysFrom, .int v_toCut, .int v_toLeave, .ref h_costAt, .ref h_places, .ref h_isCut, .ref h_written, .int v_writtenMany])), (h_a, .inl (cJ, 499, .inr (.inl v_a))), (h_worthFrom, .inl (cI, 33, .inl (upd v_worthFrom_4 x1.toNatClampNeg l5_1))), (h_cutsFrom, .inl (cI, 33, .inl v_cutsFrom_5)), (h_endFrom, .inl (cI, 33, .inl v_endFrom_6)), (h_changes, .inl (cI, 32, .inl v_changes)), (h_waysFrom, .inl (cJ, 33, .inr (.inl v_waysFrom_7)))] rfl rfl hi_8 dX11_tries_180 rfl ?_
      refine gq_aload_n hC 1 dX11_tries_181 rfl rfl ?_
      refine gq_get hC (kf := 16) 0 hin_X11 rfl rfl (by decide) hw_30 rfl dX11_tries_182 ?_
      refine gq_iload_n hC 2 dX11_tries_185 rfl rfl ?_
      refine gq_iload hC 5 dX11_tries_186 rfl ?_
      obtain ⟨hi_9, hF⟩ := gi_e hF
      refine gq_iast hC 3 0 [(h_t_, .inr (11, [.ref h_a, .ref h_fresh, .ref h_kept, .int v_keptMany, .int v_thrown, .ref h_buffer, .int v_buffered, .int v_size, .int v_at, .int v_behind, .int v_kind, .int v_wrong, .int v_wrongAt, .int v_errorAt, .long v_number, .ref h_worthFrom, .ref h_cutsFrom, .ref h_endFrom, .ref h_changes, .ref h_waysFrom, .int v_toCut, .int v_toLeave, .ref h_costAt, .ref h_places, .ref h_isCut, .ref h_written, .int v_writtenMany])), (h_a, .inl (cJ, 499, .inr (.inl v_a))), (h_worthFrom, .inl (cI, 33, .inl (upd v_worthFrom_4 x1.toNatClampNeg l5_1))), (h_cutsFrom, .inl (cI, 33, .inl (upd v_cutsFrom_5 x1.toNatClampNeg l6_2))), (h_endFrom, .inl (cI, 33, .inl v_endFrom_6)), (h_changes, .inl (cI, 32, .inl v_changes)), (h_waysFrom, .inl (cJ, 33, .inr (.inl v_waysFrom_7)))] rfl rfl hi_9 dX11_tries_188 rfl ?_
      refine gq_aload_n hC 1 dX11_tries_189 rfl rfl ?_
      refine gq_get hC (kf := 17) 0 hin_X11 rfl rfl (by decide) hw_33 rfl dX11_tries_190 ?_
      refine gq_iload_n hC 2 dX11_tries_193 rfl rfl ?_
      refine gq_iload_n hC 3 dX11_tries_194 rfl rfl ?_
      obtain ⟨hi_10, hF⟩ := gi_e hF
      refine gq_iast hC 4 0 [(h_t_, .inr (11, [.ref h_a, .ref h_fresh, .ref h_kept, .int v_keptMany, .int v_thrown, .ref h_buffer, .int v_buffered, .int v_size, .int v_at, .int v_behind, .int v_kind, .int v_wrong, .int v_wrongAt, .int v_errorAt, .long v_number, .ref h_worthFrom, .ref h_cutsFrom, .ref h_endFrom, .ref h_changes, .ref h_waysFrom, .int v_toCut, .int v_toLeave, .ref h_costAt, .ref h_places, .ref h_isCut, .ref h_written, .int v_writtenMany])), (h_a, .inl (cJ, 499, .inr (.inl v_a))), (h_worthFrom, .inl (cI, 33, .inl (upd v_worthFrom_4 x1.toNatClampNeg l5_1))), (h_cutsFrom, .inl (cI, 33, .inl (upd v_cutsFrom_5 x1.toNatClampNeg l6_2))), (h_endFrom, .inl (cI, 33, .inl (upd v_endFrom_6 x1.toNatClampNeg x2))), (h_changes, .inl (cI, 32, .inl v_changes)), (h_waysFrom, .inl (cJ, 33, .inr (.inl v_waysFrom_7)))] rfl rfl hi_10 dX11_tries_195 rfl ?_
      cases hF
      rw [hQ]
      exact gq_vret hC dX11_tries_196
    · have hF := (if_pos hc_11).symm.trans hF
      cases hF
      rw [hQ]
      exact gq_vret hC dX11_tries_172
  have jb164 : ∀ (l5_12 : Int32) (l6_13 : Int32) (v_worthFrom_14 : Nat → Int32) (v_cutsFrom_15 : Nat → Int32) (v_endFrom_16 : Nat → Int32) (v_waysFrom_17 : Nat → Int64), F_X11_tries_b164 x1 x2 l5_12 l6_13 v_worthFrom_14 v_cutsFrom_15 v_endFrom_16 v_waysFrom_17 = some (w_worthFrom, w_cutsFrom, w_endFrom, w_waysFrom) → Gx p l e (rmD 0) s m args below meth c D A 8 Q 0 0 164 [(0, .ref h_t_), (1, .int x1), (2, .int x2), (5, .int l5_12), (6, .int l6_13)] [] [(h_t_, .inr (11, [.ref h_a, .ref h_fresh, .ref h_kept, .int v_keptMany, .int v_thrown, .ref h_buffer, .int v_buffered, .int v_size, .int v_at, .int v_behind, .int v_kind, .int v_wrong, .int v_wrongAt, .int v_errorAt, .long v_number, .ref h_worthFrom, .ref h_cutsFrom, .ref h_endFrom, .ref h_changes, .ref h_waysFrom, .int v_toCut, .int v_toLeave, .ref h_costAt, .ref h_places, .ref h_isCut, .ref h_written, .int v_writtenMany])), (h_a, .inl (cJ, 499, .inr (.inl v_a))), (h_worthFrom, .inl (cI, 33, .inl v_worthFrom_14)), (h_cutsFrom, .inl (cI, 33, .inl v_cutsFrom_15)), (h_endFrom, .inl (cI, 33, .inl v_endFrom_16)), (h_changes, .inl (cI, 32, .inl v_changes)), (h_waysFrom, .inl (cJ, 33, .inr (.inl v_waysFrom_17)))] := by
    intro l5_12 l6_13 v_worthFrom_14 v_cutsFrom_15 v_endFrom_16 v_waysFrom_17 hF
    unfold F_X11_tries_b164 at hF
    refine gq_iconst hC (0 : Int32) dX11_tries_164 (by decide) ?_
    exact jb165 l5_12 l6_13 (0 : Int32) v_worthFrom_14 v_cutsFrom_15 v_endFrom_16 v_waysFrom_17 hF
  have jb160 : ∀ (l5_18 : Int32) (l6_19 : Int32) (v_worthFrom_20 : Nat → Int32) (v_cutsFrom_21 : Nat → Int32) (v_endFrom_22 : Nat → Int32) (v_waysFrom_23 : Nat → Int64), F_X11_tries_b160 x1 x2 l5_18 l6_19 v_worthFrom_20 v_cutsFrom_21 v_endFrom_22 v_waysFrom_23 = some (w_worthFrom, w_cutsFrom, w_endFrom, w_waysFrom) → Gx p l e (rmD 0) s m args below meth c D A 8 Q 0 0 160 [(0, .ref h_t_), (1, .int x1), (2, .int x2), (5, .int l5_18), (6, .int l6_19)] [] [(h_t_, .inr (11, [.ref h_a, .ref h_fresh, .ref h_kept, .int v_keptMany, .int v_thrown, .ref h_buffer, .int v_buffered, .int v_size, .int v_at, .int v_behind, .int v_kind, .int v_wrong, .int v_wrongAt, .int v_errorAt, .long v_number, .ref h_worthFrom, .ref h_cutsFrom, .ref h_endFrom, .ref h_changes, .ref h_waysFrom, .int v_toCut, .int v_toLeave, .ref h_costAt, .ref h_places, .ref h_isCut, .ref h_written, .int v_writtenMany])), (h_a, .inl (cJ, 499, .inr (.inl v_a))), (h_worthFrom, .inl (cI, 33, .inl v_worthFrom_20)), (h_cutsFrom, .inl (cI, 33, .inl v_cutsFrom_21)), (h_endFrom, .inl (cI, 33, .inl v_endFrom_22)), (h_changes, .inl (cI, 32, .inl v_changes)), (h_waysFrom, .inl (cJ, 33, .inr (.inl v_waysFrom_23)))] := by
    intro l5_18 l6_19 v_worthFrom_20 v_cutsFrom_21 v_endFrom_22 v_waysFrom_23 hF
    unfold F_X11_tries_b160 at hF
    refine gq_iconst hC (1 : Int32) dX11_tries_160 (by decide) ?_
    refine gq_goto hC 165 dX11_tries_161 (by decide) ?_
    exact jb165 l5_18 l6_19 (1 : Int32) v_worthFrom_20 v_cutsFrom_21 v_endFrom_22 v_waysFrom_23 hF
  have jb113 : ∀ (l5_24 : Int32) (st_25 : Int32) (v_worthFrom_26 : Nat → Int32) (v_cutsFrom_27 : Nat → Int32) (v_endFrom_28 : Nat → Int32) (v_waysFrom_29 : Nat → Int64), F_X11_tries_b113 x1 x2 l5_24 st_25 v_worthFrom_26 v_cutsFrom_27 v_endFrom_28 v_waysFrom_29 = some (w_worthFrom, w_cutsFrom, w_endFrom, w_waysFrom) → Gx p l e (rmD 0) s m args below meth c D A 8 Q 0 0 113 [(0, .ref h_t_), (1, .int x1), (2, .int x2), (5, .int l5_24)] [.int st_25] [(h_t_, .inr (11, [.ref h_a, .ref h_fresh, .ref h_kept, .int v_keptMany, .int v_thrown, .ref h_buffer, .int v_buffered, .int v_size, .int v_at, .int v_behind, .int v_kind, .int v_wrong, .int v_wrongAt, .int v_errorAt, .long v_number, .ref h_worthFrom, .ref h_cutsFrom, .ref h_endFrom, .ref h_changes, .ref h_waysFrom, .int v_toCut, .int v_toLeave, .ref h_costAt, .ref h_places, .ref h_isCut, .ref h_written, .int v_writtenMany])), (h_a, .inl (cJ, 499, .inr (.inl v_a))), (h_worthFrom, .inl (cI, 33, .inl v_worthFrom_26)), (h_cutsFrom, .inl (cI, 33, .inl v_cutsFrom_27)), (h_endFrom, .inl (cI, 33, .inl v_endFrom_28)), (h_changes, .inl (cI, 32, .inl v_changes)), (h_waysFrom, .inl (cJ, 33, .inr (.inl v_waysFrom_29)))] := by
    intro l5_24 st_25 v_worthFrom_26 v_cutsFrom_27 v_endFrom_28 v_waysFrom_29 hF
    unfold F_X11_tries_b113 at hF
    refine gq_istore hC [(6, .int st_25), (0, .ref h_t_), (1, .int x1), (2, .int x2), (5, .int l5_24)] dX11_tries_113 (by decide) rfl ?_
    refine gq_aload_n hC 1 dX11_tries_115 rfl rfl ?_
    refine gq_get hC (kf := 15) 0 hin_X11 rfl rfl (by decide) hw_27 rfl dX11_tries_116 ?_
    refine gq_iload_n hC 2 dX11_tries_119 rfl rfl ?_
    obtain ⟨hi_30, hF⟩ := gi_e hF
    refine gq_iald hC 2 0 rfl rfl hi_30 dX11_tries_120 ?_
    refine gq_ldcw hC (-1000000000 : Int32) dX11_tries_121 (by decide +kernel) ?_
    refine gq_icmp_eq hC 160 dX11_tries_124 (by decide) (fun hc_37 => ?_) (fun hc_37 => ?_)
    · have hF := (if_pos hc_37).symm.trans hF
      refine gq_sub [(0, .ref h_t_), (1, .int x1), (2, .int x2), (5, .int l5_24), (6, .int st_25)] [1, 2, 3, 4, 0] rfl ?_
      exact jb160 l5_24 st_25 v_worthFrom_26 v_cutsFrom_27 v_endFrom_28 v_waysFrom_29 hF
    · have hF := (if_neg hc_37).symm.trans hF
      refine gq_iload hC 4 dX11_tries_127 rfl ?_
      refine gq_aload_n hC 1 dX11_tries_129 rfl rfl ?_
      refine gq_get hC (kf := 15) 0 hin_X11 rfl rfl (by decide) hw_27 rfl dX11_tries_130 ?_
      refine gq_iload_n hC 2 dX11_tries_133 rfl rfl ?_
      obtain ⟨hi_31, hF⟩ := gi_e hF
      refine gq_iald hC 2 0 rfl rfl hi_31 dX11_tries_134 ?_
      refine gq_icmp_gt hC 160 dX11_tries_135 (by decide) (fun hc_36 => ?_) (fun hc_36 => ?_)
      · have hF := (if_pos hc_36).symm.trans hF
        refine gq_sub [(0, .ref h_t_), (1, .int x1), (2, .int x2), (5, .int l5_24), (6, .int st_25)] [1, 2, 3, 4, 0] rfl ?_
        exact jb160 l5_24 st_25 v_worthFrom_26 v_cutsFrom_27 v_endFrom_28 v_waysFrom_29 hF
      · have hF := (if_neg hc_36).symm.trans hF
        refine gq_iload hC 4 dX11_tries_138 rfl ?_
        refine gq_aload_n hC 1 dX11_tries_140 rfl rfl ?_
        refine gq_get hC (kf := 15) 0 hin_X11 rfl rfl (by decide) hw_27 rfl dX11_tries_141 ?_
        refine gq_iload_n hC 2 dX11_tries_144 rfl rfl ?_
        obtain ⟨hi_32, hF⟩ := gi_e hF
        refine gq_iald hC 2 0 rfl rfl hi_32 dX11_tries_145 ?_
        refine gq_icmp_ne hC 164 dX11_tries_146 (by decide) (fun hc_35 => ?_) (fun hc_35 => ?_)
        · have hF := (if_neg hc_35).symm.trans hF
          refine gq_sub [(0, .ref h_t_), (1, .int x1), (2, .int x2), (5, .int l5_24), (6, .int st_25)] [1, 2, 3, 4, 0] rfl ?_
          exact jb164 l5_24 st_25 v_worthFrom_26 v_cutsFrom_27 v_endFrom_28 v_waysFrom_29 hF
        · have hF := (if_pos hc_35).symm.trans hF
          refine gq_iload hC 0 dX11_tries_149 rfl ?_
          refine gq_aload_n hC 1 dX11_tries_151 rfl rfl ?_
          refine gq_get hC (kf := 16) 0 hin_X11 rfl rfl (by decide) hw_30 rfl dX11_tries_152 ?_
          refine gq_iload_n hC 2 dX11_tries_155 rfl rfl ?_
          obtain ⟨hi_33, hF⟩ := gi_e hF
          refine gq_iald hC 3 0 rfl rfl hi_33 dX11_tries_156 ?_
          refine gq_icmp_ge hC 164 dX11_tries_157 (by decide) (fun hc_34 => ?_) (fun hc_34 => ?_)
          · have hF := (if_pos hc_34).symm.trans hF
            refine gq_sub [(0, .ref h_t_), (1, .int x1), (2, .int x2), (5, .int l5_24), (6, .int st_25)] [1, 2, 3, 4, 0] rfl ?_
            exact jb164 l5_24 st_25 v_worthFrom_26 v_cutsFrom_27 v_endFrom_28 v_waysFrom_29 hF
          · have hF := (if_neg hc_34).symm.trans hF
            refine gq_sub [(0, .ref h_t_), (1, .int x1), (2, .int x2), (5, .int l5_24), (6, .int st_25)] [1, 2, 3, 4, 0] rfl ?_
            exact jb160 l5_24 st_25 v_worthFrom_26 v_cutsFrom_27 v_endFrom_28 v_waysFrom_29 hF
  have jb92 : ∀ (l4_38 : Int32) (st_39 : Int32) (v_worthFrom_40 : Nat → Int32) (v_cutsFrom_41 : Nat → Int32) (v_endFrom_42 : Nat → Int32) (v_waysFrom_43 : Nat → Int64), F_X11_tries_b92 x1 x2 l4_38 st_39 v_worthFrom_40 v_cutsFrom_41 v_endFrom_42 v_waysFrom_43 = some (w_worthFrom, w_cutsFrom, w_endFrom, w_waysFrom) → Gx p l e (rmD 0) s m args below meth c D A 8 Q 0 0 92 [(0, .ref h_t_), (1, .int x1), (2, .int x2), (4, .int l4_38)] [.int st_39] [(h_t_, .inr (11, [.ref h_a, .ref h_fresh, .ref h_kept, .int v_keptMany, .int v_thrown, .ref h_buffer, .int v_buffered, .int v_size, .int v_at, .int v_behind, .int v_kind, .int v_wrong, .int v_wrongAt, .int v_errorAt, .long v_number, .ref h_worthFrom, .ref h_cutsFrom, .ref h_endFrom, .ref h_changes, .ref h_waysFrom, .int v_toCut, .int v_toLeave, .ref h_costAt, .ref h_places, .ref h_isCut, .ref h_written, .int v_writtenMany])), (h_a, .inl (cJ, 499, .inr (.inl v_a))), (h_worthFrom, .inl (cI, 33, .inl v_worthFrom_40)), (h_cutsFrom, .inl (cI, 33, .inl v_cutsFrom_41)), (h_endFrom, .inl (cI, 33, .inl v_endFrom_42)), (h_changes, .inl (cI, 32, .inl v_changes)), (h_waysFrom, .inl (cJ, 33, .inr (.inl v_waysFrom_43)))] := by
    intro l4_38 st_39 v_worthFrom_40 v_cutsFrom_41 v_endFrom_42 v_waysFrom_43 hF
    unfold F_X11_tries_b92 at hF
    refine gq_istore hC [(5, .int st_39), (0, .ref h_t_), (1, .int x1), (2, .int x2), (4, .int l4_38)] dX11_tries_92 (by decide) rfl ?_
    refine gq_iload hC 4 dX11_tries_94 rfl ?_
    refine gq_if_eq hC 103 dX11_tries_96 (by decide) (fun hc_45 => ?_) (fun hc_45 => ?_)
    · have hF := (if_pos hc_45).symm.trans hF
      refine gq_iconst hC (1 : Int32) dX11_tries_103 (by decide) ?_
      refine gq_aload_n hC 1 dX11_tries_104 rfl rfl ?_
      refine gq_get hC (kf := 16) 0 hin_X11 rfl rfl (by decide) hw_30 rfl dX11_tries_105 ?_
      refine gq_iload_n hC 3 dX11_tries_108 rfl rfl ?_
      refine gq_iconst hC (1 : Int32) dX11_tries_109 (by decide) ?_
      refine gq_iadd hC dX11_tries_110 ?_
      obtain ⟨hi_44, hF⟩ := gi_e hF
      refine gq_iald hC 3 0 rfl rfl hi_44 dX11_tries_111 ?_
      refine gq_iadd hC dX11_tries_112 ?_
      refine gq_sub [(0, .ref h_t_), (1, .int x1), (2, .int x2), (5, .int st_39)] [1, 2, 3, 0] rfl ?_
      exact jb113 st_39 ((1 : Int32) + (v_cutsFrom_41 (x2 + (1 : Int32)).toNatClampNeg)) v_worthFrom_40 v_cutsFrom_41 v_endFrom_42 v_waysFrom_43 hF
    · have hF := (if_neg hc_45).symm.trans hF
      refine gq_iconst hC (0 : Int32) dX11_tries_99 (by decide) ?_
      refine gq_goto hC 113 dX11_tries_100 (by decide) ?_
      refine gq_sub [(0, .ref h_t_), (1, .int x1), (2, .int x2), (5, .int st_39)] [1, 2, 3, 0] rfl ?_
      exact jb113 st_39 (0 : Int32) v_worthFrom_40 v_cutsFrom_41 v_endFrom_42 v_waysFrom_43 hF
  have jb60 : ∀ (l4_46 : Int32) (v_worthFrom_47 : Nat → Int32) (v_cutsFrom_48 : Nat → Int32) (v_endFrom_49 : Nat → Int32) (v_waysFrom_50 : Nat → Int64), F_X11_tries_b60 x1 x2 l4_46 v_a v_worthFrom_47 v_cutsFrom_48 v_endFrom_49 v_changes v_waysFrom_50 = some (w_worthFrom, w_cutsFrom, w_endFrom, w_waysFrom) → Gx p l e (rmD 0) s m args below meth c D A 8 Q 0 0 60 [(0, .ref h_t_), (1, .int x1), (2, .int x2), (4, .int l4_46)] [] [(h_t_, .inr (11, [.ref h_a, .ref h_fresh, .ref h_kept, .int v_keptMany, .int v_thrown, .ref h_buffer, .int v_buffered, .int v_size, .int v_at, .int v_behind, .int v_kind, .int v_wrong, .int v_wrongAt, .int v_errorAt, .long v_number, .ref h_worthFrom, .ref h_cutsFrom, .ref h_endFrom, .ref h_changes, .ref h_waysFrom, .int v_toCut, .int v_toLeave, .ref h_costAt, .ref h_places, .ref h_isCut, .ref h_written, .int v_writtenMany])), (h_a, .inl (cJ, 499, .inr (.inl v_a))), (h_worthFrom, .inl (cI, 33, .inl v_worthFrom_47)), (h_cutsFrom, .inl (cI, 33, .inl v_cutsFrom_48)), (h_endFrom, .inl (cI, 33, .inl v_endFrom_49)), (h_changes, .inl (cI, 32, .inl v_changes)), (h_waysFrom, .inl (cJ, 33, .inr (.inl v_waysFrom_50)))] := by
    intro l4_46 v_worthFrom_47 v_cutsFrom_48 v_endFrom_49 v_waysFrom_50 hF
    unfold F_X11_tries_b60 at hF
    refine gq_iload hC 3 dX11_tries_60 rfl ?_
    refine gq_if_eq hC 69 dX11_tries_62 (by decide) (fun hc_54 => ?_) (fun hc_54 => ?_)
    · have hF := (if_pos hc_54).symm.trans hF
      refine gq_aload_n hC 0 dX11_tries_69 rfl rfl ?_
      refine gq_get hC (kf := 18) 0 hin_X11 rfl rfl (by decide) hw_36 rfl dX11_tries_70 ?_
      refine gq_iload_n hC 2 dX11_tries_73 rfl rfl ?_
      obtain ⟨hi_51, hF⟩ := gi_e hF
      refine gq_iald hC 5 0 rfl rfl hi_51 dX11_tries_74 ?_
      refine gq_aload_n hC 0 dX11_tries_75 rfl rfl ?_
      refine gq_get hC (kf := 0) 0 hin_X11 rfl rfl (by decide) hw_9 rfl dX11_tries_76 ?_
      refine gq_iconst hC (3 : Int32) dX11_tries_79 (by decide) ?_
      obtain ⟨hi_52, hF⟩ := gi_e hF
      refine gq_lald hC 1 1 rfl rfl hi_52 dX11_tries_80 ?_
      refine gq_l2i hC dX11_tries_81 ?_
      refine gq_isub hC dX11_tries_82 ?_
      refine gq_aload_n hC 0 dX11_tries_83 rfl rfl ?_
      refine gq_get hC (kf := 15) 0 hin_X11 rfl rfl (by decide) hw_27 rfl dX11_tries_84 ?_
      refine gq_iload_n hC 2 dX11_tries_87 rfl rfl ?_
      refine gq_iconst hC (1 : Int32) dX11_tries_88 (by decide) ?_
      refine gq_iadd hC dX11_tries_89 ?_
      obtain ⟨hi_53, hF⟩ := gi_e hF
      refine gq_iald hC 2 0 rfl rfl hi_53 dX11_tries_90 ?_
      refine gq_iadd hC dX11_tries_91 ?_
      exact jb92 l4_46 (((v_changes x2.toNatClampNeg) - ((v_a (3 : Int32).toNatClampNeg).toInt32)) + (v_worthFrom_47 (x2 + (1 : Int32)).toNatClampNeg)) v_worthFrom_47 v_cutsFrom_48 v_endFrom_49 v_waysFrom_50 hF
    · have hF := (if_neg hc_54).symm.trans hF
      refine gq_iconst hC (0 : Int32) dX11_tries_65 (by decide) ?_
      refine gq_goto hC 92 dX11_tries_66 (by decide) ?_
      exact jb92 l4_46 (0 : Int32) v_worthFrom_47 v_cutsFrom_48 v_endFrom_49 v_waysFrom_50 hF
  have jb38 : ∀ (l4_55 : Int32) (st_56 : Int64) (st_57 : Int64) (st_58 : Int32) (v_worthFrom_59 : Nat → Int32) (v_cutsFrom_60 : Nat → Int32) (v_endFrom_61 : Nat → Int32) (v_waysFrom_62 : Nat → Int64), F_X11_tries_b38 x1 x2 l4_55 st_56 st_57 st_58 v_a v_worthFrom_59 v_cutsFrom_60 v_endFrom_61 v_changes v_waysFrom_62 = some (w_worthFrom, w_cutsFrom, w_endFrom, w_waysFrom) → Gx p l e (rmD 0) s m args below meth c D A 8 Q 0 0 38 [(0, .ref h_t_), (1, .int x1), (2, .int x2), (4, .int l4_55)] [.long st_56, .long st_57, .int st_58, .ref h_waysFrom] [(h_t_, .inr (11, [.ref h_a, .ref h_fresh, .ref h_kept, .int v_keptMany, .int v_thrown, .ref h_buffer, .int v_buffered, .int v_size, .int v_at, .int v_behind, .int v_kind, .int v_wrong, .int v_wrongAt, .int v_errorAt, .long v_number, .ref h_worthFrom, .ref h_cutsFrom, .ref h_endFrom, .ref h_changes, .ref h_waysFrom, .int v_toCut, .int v_toLeave, .ref h_costAt, .ref h_places, .ref h_isCut, .ref h_written, .int v_writtenMany])), (h_a, .inl (cJ, 499, .inr (.inl v_a))), (h_worthFrom, .inl (cI, 33, .inl v_worthFrom_59)), (h_cutsFrom, .inl (cI, 33, .inl v_cutsFrom_60)), (h_endFrom, .inl (cI, 33, .inl v_endFrom_61)), (h_changes, .inl (cI, 32, .inl v_changes)), (h_waysFrom, .inl (cJ, 33, .inr (.inl v_waysFrom_62)))] := by
    intro l4_55 st_56 st_57 st_58 v_worthFrom_59 v_cutsFrom_60 v_endFrom_61 v_waysFrom_62 hF
    unfold F_X11_tries_b38 at hF
    refine gq_ladd hC dX11_tries_38 ?_
    obtain ⟨hi_63, hF⟩ := gi_e hF
    refine gq_last hC 6 1 [(h_t_, .inr (11, [.ref h_a, .ref h_fresh, .ref h_kept, .int v_keptMany, .int v_thrown, .ref h_buffer, .int v_buffered, .int v_size, .int v_at, .int v_behind, .int v_kind, .int v_wrong, .int v_wrongAt, .int v_errorAt, .long v_number, .ref h_worthFrom, .ref h_cutsFrom, .ref h_endFrom, .ref h_changes, .ref h_waysFrom, .int v_toCut, .int v_toLeave, .ref h_costAt, .ref h_places, .ref h_isCut, .ref h_written, .int v_writtenMany])), (h_a, .inl (cJ, 499, .inr (.inl v_a))), (h_worthFrom, .inl (cI, 33, .inl v_worthFrom_59)), (h_cutsFrom, .inl (cI, 33, .inl v_cutsFrom_60)), (h_endFrom, .inl (cI, 33, .inl v_endFrom_61)), (h_changes, .inl (cI, 32, .inl v_changes)), (h_waysFrom, .inl (cJ, 33, .inr (.inl (vp_updL v_waysFrom_62 st_58.toNatClampNeg (st_57 + st_56)))))] rfl rfl hi_63 dX11_tries_39 rfl ?_
    refine gq_iload hC 3 dX11_tries_40 rfl ?_
    refine gq_if_ne hC 60 dX11_tries_42 (by decide) (fun hc_66 => ?_) (fun hc_66 => ?_)
    · have hF := (if_neg hc_66).symm.trans hF
      exact jb60 l4_55 v_worthFrom_59 v_cutsFrom_60 v_endFrom_61 (vp_updL v_waysFrom_62 st_58.toNatClampNeg (st_57 + st_56)) hF
    · have hF := (if_pos hc_66).symm.trans hF
      refine gq_aload_n hC 0 dX11_tries_45 rfl rfl ?_
      refine gq_get hC (kf := 15) 0 hin_X11 rfl rfl (by decide) hw_27 rfl dX11_tries_46 ?_
      refine gq_iload_n hC 2 dX11_tries_49 rfl rfl ?_
      refine gq_iconst hC (1 : Int32) dX11_tries_50 (by decide) ?_
      refine gq_iadd hC dX11_tries_51 ?_
      obtain ⟨hi_64, hF⟩ := gi_e hF
      refine gq_iald hC 2 0 rfl rfl hi_64 dX11_tries_52 ?_
      refine gq_ldcw hC (-1000000000 : Int32) dX11_tries_53 (by decide +kernel) ?_
      refine gq_icmp_ne hC 60 dX11_tries_56 (by decide) (fun hc_65 => ?_) (fun hc_65 => ?_)
      · have hF := (if_neg hc_65).symm.trans hF
        exact jb60 l4_55 v_worthFrom_59 v_cutsFrom_60 v_endFrom_61 (vp_updL v_waysFrom_62 st_58.toNatClampNeg (st_57 + st_56)) hF
      · have hF := (if_pos hc_65).symm.trans hF
        cases hF
        rw [hQ]
        exact gq_vret hC dX11_tries_59
  have jb12 : ∀ (st_67 : Int32) (v_worthFrom_68 : Nat → Int32) (v_cutsFrom_69 : Nat → Int32) (v_endFrom_70 : Nat → Int32) (v_waysFrom_71 : Nat → Int64), F_X11_tries_b12 x1 x2 st_67 v_a v_worthFrom_68 v_cutsFrom_69 v_endFrom_70 v_changes v_waysFrom_71 = some (w_worthFrom, w_cutsFrom, w_endFrom, w_waysFrom) → Gx p l e (rmD 0) s m args below meth c D A 8 Q 0 0 12 [(0, .ref h_t_), (1, .int x1), (2, .int x2)] [.int st_67] [(h_t_, .inr (11, [.ref h_a, .ref h_fresh, .ref h_kept, .int v_keptMany, .int v_thrown, .ref h_buffer, .int v_buffered, .int v_size, .int v_at, .int v_behind, .int v_kind, .int v_wrong, .int v_wrongAt, .int v_errorAt, .long v_number, .ref h_worthFrom, .ref h_cutsFrom, .ref h_endFrom, .ref h_changes, .ref h_waysFrom, .int v_toCut, .int v_toLeave, .ref h_costAt, .ref h_places, .ref h_isCut, .ref h_written, .int v_writtenMany])), (h_a, .inl (cJ, 499, .inr (.inl v_a))), (h_worthFrom, .inl (cI, 33, .inl v_worthFrom_68)), (h_cutsFrom, .inl (cI, 33, .inl v_cutsFrom_69)), (h_endFrom, .inl (cI, 33, .inl v_endFrom_70)), (h_changes, .inl (cI, 32, .inl v_changes)), (h_waysFrom, .inl (cJ, 33, .inr (.inl v_waysFrom_71)))] := by
    intro st_67 v_worthFrom_68 v_cutsFrom_69 v_endFrom_70 v_waysFrom_71 hF
    unfold F_X11_tries_b12 at hF
    refine gq_istore hC [(4, .int st_67), (0, .ref h_t_), (1, .int x1), (2, .int x2)] dX11_tries_12 (by decide) rfl ?_
    refine gq_aload_n hC 1 dX11_tries_14 rfl rfl ?_
    refine gq_get hC (kf := 19) 0 hin_X11 rfl rfl (by decide) hw_39 rfl dX11_tries_15 ?_
    refine gq_iload_n hC 2 dX11_tries_18 rfl rfl ?_
    refine gq_dup2 hC dX11_tries_19 rfl rfl ?_
    obtain ⟨hi_72, hF⟩ := gi_e hF
    refine gq_lald hC 6 1 rfl rfl hi_72 dX11_tries_20 ?_
    refine gq_iload hC 0 dX11_tries_21 rfl ?_
    refine gq_if_eq hC 30 dX11_tries_23 (by decide) (fun hc_74 => ?_) (fun hc_74 => ?_)
    · have hF := (if_pos hc_74).symm.trans hF
      refine gq_aload_n hC 1 dX11_tries_30 rfl rfl ?_
      refine gq_get hC (kf := 19) 0 hin_X11 rfl rfl (by decide) hw_39 rfl dX11_tries_31 ?_
      refine gq_iload_n hC 3 dX11_tries_34 rfl rfl ?_
      refine gq_iconst hC (1 : Int32) dX11_tries_35 (by decide) ?_
      refine gq_iadd hC dX11_tries_36 ?_
      obtain ⟨hi_73, hF⟩ := gi_e hF
      refine gq_lald hC 6 1 rfl rfl hi_73 dX11_tries_37 ?_
      refine gq_sub [(0, .ref h_t_), (1, .int x1), (2, .int x2), (4, .int st_67)] [1, 2, 3, 0] rfl ?_
      exact jb38 st_67 (v_waysFrom_71 (x2 + (1 : Int32)).toNatClampNeg) (v_waysFrom_71 x1.toNatClampNeg) x1 v_worthFrom_68 v_cutsFrom_69 v_endFrom_70 v_waysFrom_71 hF
    · have hF := (if_neg hc_74).symm.trans hF
      refine gq_lconst hC (1 : Int64) dX11_tries_26 (by decide) ?_
      refine gq_goto hC 38 dX11_tries_27 (by decide) ?_
      refine gq_sub [(0, .ref h_t_), (1, .int x1), (2, .int x2), (4, .int st_67)] [1, 2, 3, 0] rfl ?_
      exact jb38 st_67 (1 : Int64) (v_waysFrom_71 x1.toNatClampNeg) x1 v_worthFrom_68 v_cutsFrom_69 v_endFrom_70 v_waysFrom_71 hF
  unfold F_X11_tries at hF
  refine gq_iload_n hC 2 dX11_tries_0 rfl rfl ?_
  refine gq_iload_n hC 3 dX11_tries_1 rfl rfl ?_
  refine gq_iconst hC (1 : Int32) dX11_tries_2 (by decide) ?_
  refine gq_isub hC dX11_tries_3 ?_
  refine gq_icmp_ne hC 11 dX11_tries_4 (by decide) (fun hc_75 => ?_) (fun hc_75 => ?_)
  · have hF := (if_neg hc_75).symm.trans hF
    refine gq_iconst hC (0 : Int32) dX11_tries_11 (by decide) ?_
    refine gq_sub [(0, .ref h_t_), (1, .int x1), (2, .int x2)] [0, 1, 2] rfl ?_
    exact jb12 (0 : Int32) v_worthFrom v_cutsFrom v_endFrom v_waysFrom hF
  · have hF := (if_pos hc_75).symm.trans hF
    refine gq_iconst hC (1 : Int32) dX11_tries_7 (by decide) ?_
    refine gq_goto hC 12 dX11_tries_8 (by decide) ?_
    refine gq_sub [(0, .ref h_t_), (1, .int x1), (2, .int x2)] [0, 1, 2] rfl ?_
    exact jb12 (1 : Int32) v_worthFrom v_cutsFrom v_endFrom v_waysFrom hF
theorem hy_X11_laysDivisions : yX11_laysDivisions.cls = RX11 ∧ yX11_laysDivisions.cls ≠ "java/lang/invoke/MethodHandle" ∧ yX11_laysDivisions.cls ≠ "java/lang/invoke/VarHandle" ∧ (parseMethodDescriptor yX11_laysDivisions.desc).map (fun d => d.parameters.length) = some 0 := by decide +kernel
set_option maxRecDepth 20000 in
set_option maxHeartbeats 4000000 in
theorem k_X11_laysDivisions (l : Launch) (D : va_G) (cI cJ cZ cO : ClassId) (z : Nat → Nat)   (h_t_ : Nat) (h_a : Nat) (h_worthFrom : Nat) (h_cutsFrom : Nat) (h_endFrom : Nat) (h_changes : Nat) (h_waysFrom : Nat) (h_fresh : Nat) (h_kept : Nat) (h_buffer : Nat) (h_costAt : Nat) (h_places : Nat) (h_isCut : Nat) (h_written : Nat)  (v_keptMany : Int32) (v_thrown : Int32) (v_buffered : Int32) (v_size : Int32) (v_at : Int32) (v_behind : Int32) (v_kind : Int32) (v_wrong : Int32) (v_wrongAt : Int32) (v_errorAt : Int32) (v_number : Int64) (v_toCut : Int32) (v_toLeave : Int32) (v_writtenMany : Int32) (v_a : Nat → Int64) (v_worthFrom : Nat → Int32) (v_cutsFrom : Nat → Int32) (v_endFrom : Nat → Int32) (v_changes : Nat → Int32) (v_waysFrom : Nat → Int64) (w_worthFrom : Nat → Int32) (w_cutsFrom : Nat → Int32) (w_endFrom : Nat → Int32) (w_changes : Nat → Int32) (w_waysFrom : Nat → Int64) (hF : F_X11_laysDivisions v_toCut v_toLeave v_a v_worthFrom v_cutsFrom v_endFrom v_changes v_waysFrom = some (w_worthFrom, w_cutsFrom, w_endFrom, w_changes, w_waysFrom)) : Mv l yX11_laysDivisions wsX11_laysDivisions (rmD 4) D (gq_ty cI cJ cZ cO) z [.ref h_t_] [(h_t_, .inr (11, [.ref h_a, .ref h_fresh, .ref h_kept, .int v_keptMany, .int v_thrown, .ref h_buffer, .int v_buffered, .int v_size, .int v_at, .int v_behind, .int v_kind, .int v_wrong, .int v_wrongAt, .int v_errorAt, .long v_number, .ref h_worthFrom, .ref h_cutsFrom, .ref h_endFrom, .ref h_changes, .ref h_waysFrom, .int v_toCut, .int v_toLeave, .ref h_costAt, .ref h_places, .ref h_isCut, .ref h_written, .int v_writtenMany])), (h_a, .inl (cJ, 499, .inr (.inl v_a))), (h_worthFrom, .inl (cI, 33, .inl v_worthFrom)), (h_cutsFrom, .inl (cI, 33, .inl v_cutsFrom)), (h_endFrom, .inl (cI, 33, .inl v_endFrom)), (h_changes, .inl (cI, 32, .inl v_changes)), (h_waysFrom, .inl (cJ, 33, .inr (.inl v_waysFrom)))] [(h_t_, .inr (11, [.ref h_a, .ref h_fresh, .ref h_kept, .int v_keptMany, .int v_thrown, .ref h_buffer, .int v_buffered, .int v_size, .int v_at, .int v_behind, .int v_kind, .int v_wrong, .int v_wrongAt, .int v_errorAt, .long v_number, .ref h_worthFrom, .ref h_cutsFrom, .ref h_endFrom, .ref h_changes, .ref h_waysFrom, .int v_toCut, .int v_toLeave, .ref h_costAt, .ref h_places, .ref h_isCut, .ref h_written, .int v_writtenMany])), (h_a, .inl (cJ, 499, .inr (.inl v_a))), (h_worthFrom, .inl (cI, 33, .inl w_worthFrom)), (h_cutsFrom, .inl (cI, 33, .inl w_cutsFrom)), (h_endFrom, .inl (cI, 33, .inl w_endFrom)), (h_changes, .inl (cI, 32, .inl w_changes)), (h_waysFrom, .inl (cJ, 33, .inr (.inl w_waysFrom)))] 0 0 := by
  refine Mv.of (cc := cX11_laysDivisions) (maxL := 4) (by decide) rfl (Nat.le_of_ble_eq_true rfl) ⟨Nat.le_refl 0, Nat.le_refl 0⟩ ?_
  intro p e s m args below meth c A hC ha
  have hin_X11 : ∀ w ∈ wsX110, w ∈ wsX11_laysDivisions := by decide +kernel
  have hw_27 : Cond.fieldLink RX11 27 (TX11 15).1 (TX11 15).2.1 (TX11 15).2.2.1 ∈ wsX11_laysDivisions := by decide +kernel
  have hw_36 : Cond.fieldLink RX11 36 (TX11 18).1 (TX11 18).2.1 (TX11 18).2.2.1 ∈ wsX11_laysDivisions := by decide +kernel
  have hw_39 : Cond.fieldLink RX11 39 (TX11 19).1 (TX11 19).2.1 (TX11 19).2.2.1 ∈ wsX11_laysDivisions := by decide +kernel
  obtain ⟨Q, hQ⟩ : ∃ Q, Q = gq_Qv below D A args s [(h_t_, .inr (11, [.ref h_a, .ref h_fresh, .ref h_kept, .int v_keptMany, .int v_thrown, .ref h_buffer, .int v_buffered, .int v_size, .int v_at, .int v_behind, .int v_kind, .int v_wrong, .int v_wrongAt, .int v_errorAt, .long v_number, .ref h_worthFrom, .ref h_cutsFrom, .ref h_endFrom, .ref h_changes, .ref h_waysFrom, .int v_toCut, .int v_toLeave, .ref h_costAt, .ref h_places, .ref h_isCut, .ref h_written, .int v_writtenMany])), (h_a, .inl (cJ, 499, .inr (.inl v_a))), (h_worthFrom, .inl (cI, 33, .inl w_worthFrom)), (h_cutsFrom, .inl (cI, 33, .inl w_cutsFrom)), (h_endFrom, .inl (cI, 33, .inl w_endFrom)), (h_changes, .inl (cI, 32, .inl w_changes)), (h_waysFrom, .inl (cJ, 33, .inr (.inl w_waysFrom)))] 0 0 := ⟨_, rfl⟩
  rw [← hQ]
  refine gq_loc [(0, .ref h_t_)] rfl ?_
  unfold F_X11_laysDivisions at hF
  refine gq_aload_n hC 0 dX11_laysDivisions_0 rfl rfl ?_
  obtain ⟨r_1, hc_, hF⟩ := ob1_e hF
  refine gq_callVi hC [0, 1] [(h_t_, .inr (11, [.ref h_a, .ref h_fresh, .ref h_kept, .int v_keptMany, .int v_thrown, .ref h_buffer, .int v_buffered, .int v_size, .int v_at, .int v_behind, .int v_kind, .int v_wrong, .int v_wrongAt, .int v_errorAt, .long v_number, .ref h_worthFrom, .ref h_cutsFrom, .ref h_endFrom, .ref h_changes, .ref h_waysFrom, .int v_toCut, .int v_toLeave, .ref h_costAt, .ref h_places, .ref h_isCut, .ref h_written, .int v_writtenMany])), (h_a, .inl (cJ, 499, .inr (.inl v_a))), (h_worthFrom, .inl (cI, 33, .inl v_worthFrom)), (h_cutsFrom, .inl (cI, 33, .inl v_cutsFrom)), (h_endFrom, .inl (cI, 33, .inl v_endFrom)), (h_changes, .inl (cI, 32, .inl v_changes)), (h_waysFrom, .inl (cJ, 33, .inr (.inl v_waysFrom)))] [] [] (k_X11_many l D cI cJ cZ cO z h_t_ h_a h_fresh h_kept h_buffer h_worthFrom h_cutsFrom h_endFrom h_changes h_waysFrom h_costAt h_places h_isCut h_written v_keptMany v_thrown v_buffered v_size v_at v_behind v_kind v_wrong v_wrongAt v_errorAt v_number v_toCut v_toLeave v_writtenMany v_a r_1 hc_) gX11_laysDivisions_X11_many rfl ⟨rfl, rfl⟩ hy_X11_many ⟨Nat.le_of_ble_eq_true rfl, Nat.le_of_ble_eq_true rfl⟩ rfl rfl rfl (q0 := 0) rfl rfl rfl (Nat.le_of_ble_eq_true rfl) rfl dX11_laysDivisions_1 rfl rfl ?_
  refine gq_istore_n hC [(1, .int r_1), (0, .ref h_t_)] dX11_laysDivisions_4 rfl (by decide) rfl ?_
  refine gq_iconst hC (0 : Int32) dX11_laysDivisions_5 (by decide) ?_
  refine gq_istore_n hC [(2, .int (0 : Int32)), (1, .int r_1), (0, .ref h_t_)] dX11_laysDivisions_6 rfl (by decide) rfl ?_
  have lp7 : ∀ (l1_2 : Int32) (v_worthFrom_4 : Nat → Int32) (v_cutsFrom_5 : Nat → Int32) (v_endFrom_6 : Nat → Int32) (v_waysFrom_8 : Nat → Int64), ∀ (e_12 : (Nat → Int32)), Gx p l e (rmD 4) s m args below meth c D A 4 Q 0 0 31 [(0, .ref h_t_), (1, .int l1_2)] [] [(h_t_, .inr (11, [.ref h_a, .ref h_fresh, .ref h_kept, .int v_keptMany, .int v_thrown, .ref h_buffer, .int v_buffered, .int v_size, .int v_at, .int v_behind, .int v_kind, .int v_wrong, .int v_wrongAt, .int v_errorAt, .long v_number, .ref h_worthFrom, .ref h_cutsFrom, .ref h_endFrom, .ref h_changes, .ref h_waysFrom, .int v_toCut, .int v_toLeave, .ref h_costAt, .ref h_places, .ref h_isCut, .ref h_written, .int v_writtenMany])), (h_a, .inl (cJ, 499, .inr (.inl v_a))), (h_worthFrom, .inl (cI, 33, .inl v_worthFrom_4)), (h_cutsFrom, .inl (cI, 33, .inl v_cutsFrom_5)), (h_endFrom, .inl (cI, 33, .inl v_endFrom_6)), (h_changes, .inl (cI, 32, .inl e_12)), (h_waysFrom, .inl (cJ, 33, .inr (.inl v_waysFrom_8)))] → ∀ (N : Nat) (l2_3 : Int32) (v_changes_7 : Nat → Int32), wh (fun k q => S_X11_laysDivisions_7 l1_2 v_toCut v_toLeave v_a v_worthFrom_4 v_cutsFrom_5 v_endFrom_6 v_waysFrom_8 k q.1 q.2) N (l2_3, v_changes_7) = some e_12 → Gx p l e (rmD 4) s m args below meth c D A 4 Q 0 0 7 [(0, .ref h_t_), (1, .int l1_2), (2, .int l2_3)] [] [(h_t_, .inr (11, [.ref h_a, .ref h_fresh, .ref h_kept, .int v_keptMany, .int v_thrown, .ref h_buffer, .int v_buffered, .int v_size, .int v_at, .int v_behind, .int v_kind, .int v_wrong, .int v_wrongAt, .int v_errorAt, .long v_number, .ref h_worthFrom, .ref h_cutsFrom, .ref h_endFrom, .ref h_changes, .ref h_waysFrom, .int v_toCut, .int v_toLeave, .ref h_costAt, .ref h_places, .ref h_isCut, .ref h_written, .int v_writtenMany])), (h_a, .inl (cJ, 499, .inr (.inl v_a))), (h_worthFrom, .inl (cI, 33, .inl v_worthFrom_4)), (h_cutsFrom, .inl (cI, 33, .inl v_cutsFrom_5)), (h_endFrom, .inl (cI, 33, .inl v_endFrom_6)), (h_changes, .inl (cI, 32, .inl v_changes_7)), (h_waysFrom, .inl (cJ, 33, .inr (.inl v_waysFrom_8)))] := by
    intro l1_2 v_worthFrom_4 v_cutsFrom_5 v_endFrom_6 v_waysFrom_8 e_12 hx0 N
    induction N with
    | zero => intro l2_3 v_changes_7 hw; exact absurd hw (wh_0 _ _ _)
    | succ N ih =>
      intro l2_3 v_changes_7 hw
      have hF : S_X11_laysDivisions_7 l1_2 v_toCut v_toLeave v_a v_worthFrom_4 v_cutsFrom_5 v_endFrom_6 v_waysFrom_8 (wh (fun k q => S_X11_laysDivisions_7 l1_2 v_toCut v_toLeave v_a v_worthFrom_4 v_cutsFrom_5 v_endFrom_6 v_waysFrom_8 k q.1 q.2) N) l2_3 v_changes_7 = some e_12 := hw
      unfold S_X11_laysDivisions_7 at hF
      refine gq_iload_n hC 2 dX11_laysDivisions_7 rfl rfl ?_
      refine gq_iload_n hC 1 dX11_laysDivisions_8 rfl rfl ?_
      refine gq_iconst hC (1 : Int32) dX11_laysDivisions_9 (by decide) ?_
      refine gq_isub hC dX11_laysDivisions_10 ?_
      refine gq_icmp_ge hC 31 dX11_laysDivisions_11 (by decide) (fun hc_11 => ?_) (fun hc_11 => ?_)
      · have hF := (if_pos hc_11).symm.trans hF
        refine gq_sub [(0, .ref h_t_), (1, .int l1_2)] [0, 1] rfl ?_
        cases hF
        exact hx0
      · have hF := (if_neg hc_11).symm.trans hF
        refine gq_aload_n hC 0 dX11_laysDivisions_14 rfl rfl ?_
        refine gq_get hC (kf := 18) 0 hin_X11 rfl rfl (by decide) hw_36 rfl dX11_laysDivisions_15 ?_
        refine gq_iload_n hC 2 dX11_laysDivisions_18 rfl rfl ?_
        refine gq_aload_n hC 0 dX11_laysDivisions_19 rfl rfl ?_
        refine gq_iload_n hC 2 dX11_laysDivisions_20 rfl rfl ?_
        obtain ⟨r_9, hc_, hF⟩ := ob1_e hF
        refine gq_callVi hC [0, 1] [(h_t_, .inr (11, [.ref h_a, .ref h_fresh, .ref h_kept, .int v_keptMany, .int v_thrown, .ref h_buffer, .int v_buffered, .int v_size, .int v_at, .int v_behind, .int v_kind, .int v_wrong, .int v_wrongAt, .int v_errorAt, .long v_number, .ref h_worthFrom, .ref h_cutsFrom, .ref h_endFrom, .ref h_changes, .ref h_waysFrom, .int v_toCut, .int v_toLeave, .ref h_costAt, .ref h_places, .ref h_isCut, .ref h_written, .int v_writtenMany])), (h_a, .inl (cJ, 499, .inr (.inl v_a))), (h_worthFrom, .inl (cI, 33, .inl v_worthFrom_4)), (h_cutsFrom, .inl (cI, 33, .inl v_cutsFrom_5)), (h_endFrom, .inl (cI, 33, .inl v_endFrom_6)), (h_changes, .inl (cI, 32, .inl v_changes_7)), (h_waysFrom, .inl (cJ, 33, .inr (.inl v_waysFrom_8)))] [.int l2_3] [.int l2_3, .ref h_changes] (k_X11_changeOf l D cI cJ cZ cO z h_t_ h_a h_fresh h_kept h_buffer h_worthFrom h_cutsFrom h_endFrom h_changes h_waysFrom h_costAt h_places h_isCut h_written l2_3 v_keptMany v_thrown v_buffered v_size v_at v_behind v_kind v_wrong v_wrongAt v_errorAt v_number v_toCut v_toLeave v_writtenMany v_a r_9 hc_) gX11_laysDivisions_X11_changeOf rfl ⟨rfl, rfl⟩ hy_X11_changeOf ⟨Nat.le_of_ble_eq_true rfl, Nat.le_of_ble_eq_true rfl⟩ rfl rfl rfl (q0 := 0) rfl rfl rfl (Nat.le_of_ble_eq_true rfl) rfl dX11_laysDivisions_21 rfl rfl ?_
        obtain ⟨hi_10, hF⟩ := gi_e hF
        refine gq_iast hC 5 0 [(h_t_, .inr (11, [.ref h_a, .ref h_fresh, .ref h_kept, .int v_keptMany, .int v_thrown, .ref h_buffer, .int v_buffered, .int v_size, .int v_at, .int v_behind, .int v_kind, .int v_wrong, .int v_wrongAt, .int v_errorAt, .long v_number, .ref h_worthFrom, .ref h_cutsFrom, .ref h_endFrom, .ref h_changes, .ref h_waysFrom, .int v_toCut, .int v_toLeave, .ref h_costAt, .ref h_places, .ref h_isCut, .ref h_written, .int v_writtenMany])), (h_a, .inl (cJ, 499, .inr (.inl v_a))), (h_worthFrom, .inl (cI, 33, .inl v_worthFrom_4)), (h_cutsFrom, .inl (cI, 33, .inl v_cutsFrom_5)), (h_endFrom, .inl (cI, 33, .inl v_endFrom_6)), (h_changes, .inl (cI, 32, .inl (upd v_changes_7 l2_3.toNatClampNeg r_9))), (h_waysFrom, .inl (cJ, 33, .inr (.inl v_waysFrom_8)))] rfl rfl hi_10 dX11_laysDivisions_24 rfl ?_
        refine gq_iinc hC 2 (l2_3 + (1 : Int32)) [(2, .int (l2_3 + (1 : Int32))), (0, .ref h_t_), (1, .int l1_2)] dX11_laysDivisions_25 rfl rfl (by decide) rfl ?_
        refine gq_goto hC 7 dX11_laysDivisions_28 (by decide) ?_
        refine gq_sub [(0, .ref h_t_), (1, .int l1_2), (2, .int (l2_3 + (1 : Int32)))] [1, 2, 0] rfl ?_
        exact ih (l2_3 + (1 : Int32)) (upd v_changes_7 l2_3.toNatClampNeg r_9) hF
  refine gq_sub [(0, .ref h_t_), (1, .int r_1), (2, .int (0 : Int32))] [2, 1, 0] rfl ?_
  obtain ⟨e_13, hw_, hF⟩ := ob1_e hF
  refine lp7 r_1 v_worthFrom v_cutsFrom v_endFrom v_waysFrom e_13 ?_ wF (0 : Int32) v_changes hw_
  refine gq_iload_n hC 1 dX11_laysDivisions_31 rfl rfl ?_
  refine gq_iconst hC (1 : Int32) dX11_laysDivisions_32 (by decide) ?_
  refine gq_isub hC dX11_laysDivisions_33 ?_
  refine gq_istore_n hC [(2, .int (r_1 - (1 : Int32))), (0, .ref h_t_), (1, .int r_1)] dX11_laysDivisions_34 rfl (by decide) rfl ?_
  have lp35 : ∀ (l1_14 : Int32) (v_changes_19 : Nat → Int32), ∀ (e_45 : (Nat → Int32)) (e_46 : (Nat → Int32)) (e_47 : (Nat → Int32)) (e_48 : (Nat → Int64)), Gx p l e (rmD 4) s m args below meth c D A 4 Q 0 0 90 [] [] [(h_t_, .inr (11, [.ref h_a, .ref h_fresh, .ref h_kept, .int v_keptMany, .int v_thrown, .ref h_buffer, .int v_buffered, .int v_size, .int v_at, .int v_behind, .int v_kind, .int v_wrong, .int v_wrongAt, .int v_errorAt, .long v_number, .ref h_worthFrom, .ref h_cutsFrom, .ref h_endFrom, .ref h_changes, .ref h_waysFrom, .int v_toCut, .int v_toLeave, .ref h_costAt, .ref h_places, .ref h_isCut, .ref h_written, .int v_writtenMany])), (h_a, .inl (cJ, 499, .inr (.inl v_a))), (h_worthFrom, .inl (cI, 33, .inl e_45)), (h_cutsFrom, .inl (cI, 33, .inl e_46)), (h_endFrom, .inl (cI, 33, .inl e_47)), (h_changes, .inl (cI, 32, .inl v_changes_19)), (h_waysFrom, .inl (cJ, 33, .inr (.inl e_48)))] → ∀ (N : Nat) (l2_15 : Int32) (v_worthFrom_16 : Nat → Int32) (v_cutsFrom_17 : Nat → Int32) (v_endFrom_18 : Nat → Int32) (v_waysFrom_20 : Nat → Int64), wh (fun k q => S_X11_laysDivisions_35 l1_14 v_toCut v_toLeave v_a v_changes_19 k q.1 q.2.1 q.2.2.1 q.2.2.2.1 q.2.2.2.2) N (l2_15, v_worthFrom_16, v_cutsFrom_17, v_endFrom_18, v_waysFrom_20) = some (e_45, e_46, e_47, e_48) → Gx p l e (rmD 4) s m args below meth c D A 4 Q 0 0 35 [(0, .ref h_t_), (1, .int l1_14), (2, .int l2_15)] [] [(h_t_, .inr (11, [.ref h_a, .ref h_fresh, .ref h_kept, .int v_keptMany, .int v_thrown, .ref h_buffer, .int v_buffered, .int v_size, .int v_at, .int v_behind, .int v_kind, .int v_wrong, .int v_wrongAt, .int v_errorAt, .long v_number, .ref h_worthFrom, .ref h_cutsFrom, .ref h_endFrom, .ref h_changes, .ref h_waysFrom, .int v_toCut, .int v_toLeave, .ref h_costAt, .ref h_places, .ref h_isCut, .ref h_written, .int v_writtenMany])), (h_a, .inl (cJ, 499, .inr (.inl v_a))), (h_worthFrom, .inl (cI, 33, .inl v_worthFrom_16)), (h_cutsFrom, .inl (cI, 33, .inl v_cutsFrom_17)), (h_endFrom, .inl (cI, 33, .inl v_endFrom_18)), (h_changes, .inl (cI, 32, .inl v_changes_19)), (h_waysFrom, .inl (cJ, 33, .inr (.inl v_waysFrom_20)))] := by
    intro l1_14 v_changes_19 e_45 e_46 e_47 e_48 hx0 N
    induction N with
    | zero => intro l2_15 v_worthFrom_16 v_cutsFrom_17 v_endFrom_18 v_waysFrom_20 hw; exact absurd hw (wh_0 _ _ _)
    | succ N ih =>
      intro l2_15 v_worthFrom_16 v_cutsFrom_17 v_endFrom_18 v_waysFrom_20 hw
      have hF : S_X11_laysDivisions_35 l1_14 v_toCut v_toLeave v_a v_changes_19 (wh (fun k q => S_X11_laysDivisions_35 l1_14 v_toCut v_toLeave v_a v_changes_19 k q.1 q.2.1 q.2.2.1 q.2.2.2.1 q.2.2.2.2) N) l2_15 v_worthFrom_16 v_cutsFrom_17 v_endFrom_18 v_waysFrom_20 = some (e_45, e_46, e_47, e_48) := hw
      unfold S_X11_laysDivisions_35 at hF
      refine gq_iload_n hC 2 dX11_laysDivisions_35 rfl rfl ?_
      refine gq_if_lt hC 90 dX11_laysDivisions_36 (by decide) (fun hc_44 => ?_) (fun hc_44 => ?_)
      · have hF := (if_pos hc_44).symm.trans hF
        refine gq_sub [] [] rfl ?_
        cases hF
        exact hx0
      · have hF := (if_neg hc_44).symm.trans hF
        refine gq_aload_n hC 0 dX11_laysDivisions_39 rfl rfl ?_
        refine gq_get hC (kf := 15) 0 hin_X11 rfl rfl (by decide) hw_27 rfl dX11_laysDivisions_40 ?_
        refine gq_iload_n hC 2 dX11_laysDivisions_43 rfl rfl ?_
        refine gq_ldcw hC (-1000000000 : Int32) dX11_laysDivisions_44 (by decide +kernel) ?_
        obtain ⟨hi_21, hF⟩ := gi_e hF
        refine gq_iast hC 2 0 [(h_t_, .inr (11, [.ref h_a, .ref h_fresh, .ref h_kept, .int v_keptMany, .int v_thrown, .ref h_buffer, .int v_buffered, .int v_size, .int v_at, .int v_behind, .int v_kind, .int v_wrong, .int v_wrongAt, .int v_errorAt, .long v_number, .ref h_worthFrom, .ref h_cutsFrom, .ref h_endFrom, .ref h_changes, .ref h_waysFrom, .int v_toCut, .int v_toLeave, .ref h_costAt, .ref h_places, .ref h_isCut, .ref h_written, .int v_writtenMany])), (h_a, .inl (cJ, 499, .inr (.inl v_a))), (h_worthFrom, .inl (cI, 33, .inl (upd v_worthFrom_16 l2_15.toNatClampNeg (-1000000000 : Int32)))), (h_cutsFrom, .inl (cI, 33, .inl v_cutsFrom_17)), (h_endFrom, .inl (cI, 33, .inl v_endFrom_18)), (h_changes, .inl (cI, 32, .inl v_changes_19)), (h_waysFrom, .inl (cJ, 33, .inr (.inl v_waysFrom_20)))] rfl rfl hi_21 dX11_laysDivisions_47 rfl ?_
        refine gq_aload_n hC 0 dX11_laysDivisions_48 rfl rfl ?_
        refine gq_get hC (kf := 19) 0 hin_X11 rfl rfl (by decide) hw_39 rfl dX11_laysDivisions_49 ?_
        refine gq_iload_n hC 2 dX11_laysDivisions_52 rfl rfl ?_
        refine gq_lconst hC (0 : Int64) dX11_laysDivisions_53 (by decide) ?_
        obtain ⟨hi_22, hF⟩ := gi_e hF
        refine gq_last hC 6 1 [(h_t_, .inr (11, [.ref h_a, .ref h_fresh, .ref h_kept, .int v_keptMany, .int v_thrown, .ref h_buffer, .int v_buffered, .int v_size, .int v_at, .int v_behind, .int v_kind, .int v_wrong, .int v_wrongAt, .int v_errorAt, .long v_number, .ref h_worthFrom, .ref h_cutsFrom, .ref h_endFrom, .ref h_changes, .ref h_waysFrom, .int v_toCut, .int v_toLeave, .ref h_costAt, .ref h_places, .ref h_isCut, .ref h_written, .int v_writtenMany])), (h_a, .inl (cJ, 499, .inr (.inl v_a))), (h_worthFrom, .inl (cI, 33, .inl (upd v_worthFrom_16 l2_15.toNatClampNeg (-1000000000 : Int32)))), (h_cutsFrom, .inl (cI, 33, .inl v_cutsFrom_17)), (h_endFrom, .inl (cI, 33, .inl v_endFrom_18)), (h_changes, .inl (cI, 32, .inl v_changes_19)), (h_waysFrom, .inl (cJ, 33, .inr (.inl (vp_updL v_waysFrom_20 l2_15.toNatClampNeg (0 : Int64)))))] rfl rfl hi_22 dX11_laysDivisions_54 rfl ?_
        refine gq_iload_n hC 2 dX11_laysDivisions_55 rfl rfl ?_
        refine gq_istore_n hC [(3, .int l2_15), (0, .ref h_t_), (1, .int l1_14), (2, .int l2_15)] dX11_laysDivisions_56 rfl (by decide) rfl ?_
        have lp57 : ∀ (l2_23 : Int32), ∀ (e_36 : (Nat → Int32)) (e_37 : (Nat → Int32)) (e_38 : (Nat → Int32)) (e_39 : (Nat → Int64)), Gx p l e (rmD 4) s m args below meth c D A 4 Q 0 0 84 [(0, .ref h_t_), (1, .int l1_14), (2, .int l2_23)] [] [(h_t_, .inr (11, [.ref h_a, .ref h_fresh, .ref h_kept, .int v_keptMany, .int v_thrown, .ref h_buffer, .int v_buffered, .int v_size, .int v_at, .int v_behind, .int v_kind, .int v_wrong, .int v_wrongAt, .int v_errorAt, .long v_number, .ref h_worthFrom, .ref h_cutsFrom, .ref h_endFrom, .ref h_changes, .ref h_waysFrom, .int v_toCut, .int v_toLeave, .ref h_costAt, .ref h_places, .ref h_isCut, .ref h_written, .int v_writtenMany])), (h_a, .inl (cJ, 499, .inr (.inl v_a))), (h_worthFrom, .inl (cI, 33, .inl e_36)), (h_cutsFrom, .inl (cI, 33, .inl e_37)), (h_endFrom, .inl (cI, 33, .inl e_38)), (h_changes, .inl (cI, 32, .inl v_changes_19)), (h_waysFrom, .inl (cJ, 33, .inr (.inl e_39)))] → ∀ (N : Nat) (l3_24 : Int32) (v_worthFrom_25 : Nat → Int32) (v_cutsFrom_26 : Nat → Int32) (v_endFrom_27 : Nat → Int32) (v_waysFrom_28 : Nat → Int64), wh (fun k q => S_X11_laysDivisions_57 l1_14 l2_23 v_toCut v_toLeave v_a v_changes_19 k q.1 q.2.1 q.2.2.1 q.2.2.2.1 q.2.2.2.2) N (l3_24, v_worthFrom_25, v_cutsFrom_26, v_endFrom_27, v_waysFrom_28) = some (e_36, e_37, e_38, e_39) → Gx p l e (rmD 4) s m args below meth c D A 4 Q 0 0 57 [(0, .ref h_t_), (1, .int l1_14), (2, .int l2_23), (3, .int l3_24)] [] [(h_t_, .inr (11, [.ref h_a, .ref h_fresh, .ref h_kept, .int v_keptMany, .int v_thrown, .ref h_buffer, .int v_buffered, .int v_size, .int v_at, .int v_behind, .int v_kind, .int v_wrong, .int v_wrongAt, .int v_errorAt, .long v_number, .ref h_worthFrom, .ref h_cutsFrom, .ref h_endFrom, .ref h_changes, .ref h_waysFrom, .int v_toCut, .int v_toLeave, .ref h_costAt, .ref h_places, .ref h_isCut, .ref h_written, .int v_writtenMany])), (h_a, .inl (cJ, 499, .inr (.inl v_a))), (h_worthFrom, .inl (cI, 33, .inl v_worthFrom_25)), (h_cutsFrom, .inl (cI, 33, .inl v_cutsFrom_26)), (h_endFrom, .inl (cI, 33, .inl v_endFrom_27)), (h_changes, .inl (cI, 32, .inl v_changes_19)), (h_waysFrom, .inl (cJ, 33, .inr (.inl v_waysFrom_28)))] := by
          intro l2_23 e_36 e_37 e_38 e_39 hx0 N
          induction N with
          | zero => intro l3_24 v_worthFrom_25 v_cutsFrom_26 v_endFrom_27 v_waysFrom_28 hw; exact absurd hw (wh_0 _ _ _)
          | succ N ih =>
            intro l3_24 v_worthFrom_25 v_cutsFrom_26 v_endFrom_27 v_waysFrom_28 hw
            have hF : S_X11_laysDivisions_57 l1_14 l2_23 v_toCut v_toLeave v_a v_changes_19 (wh (fun k q => S_X11_laysDivisions_57 l1_14 l2_23 v_toCut v_toLeave v_a v_changes_19 k q.1 q.2.1 q.2.2.1 q.2.2.2.1 q.2.2.2.2) N) l3_24 v_worthFrom_25 v_cutsFrom_26 v_endFrom_27 v_waysFrom_28 = some (e_36, e_37, e_38, e_39) := hw
            unfold S_X11_laysDivisions_57 at hF
            refine gq_iload_n hC 3 dX11_laysDivisions_57 rfl rfl ?_
            refine gq_iload_n hC 1 dX11_laysDivisions_58 rfl rfl ?_
            refine gq_icmp_ge hC 84 dX11_laysDivisions_59 (by decide) (fun hc_35 => ?_) (fun hc_35 => ?_)
            · have hF := (if_pos hc_35).symm.trans hF
              refine gq_sub [(0, .ref h_t_), (1, .int l1_14), (2, .int l2_23)] [0, 1, 2] rfl ?_
              cases hF
              exact hx0
            · have hF := (if_neg hc_35).symm.trans hF
              refine gq_aload_n hC 0 dX11_laysDivisions_62 rfl rfl ?_
              refine gq_iload_n hC 2 dX11_laysDivisions_63 rfl rfl ?_
              refine gq_iload_n hC 3 dX11_laysDivisions_64 rfl rfl ?_
              obtain ⟨r_29, hc_, hF⟩ := ob1_e hF
              refine gq_callVi hC [0, 1] [(h_t_, .inr (11, [.ref h_a, .ref h_fresh, .ref h_kept, .int v_keptMany, .int v_thrown, .ref h_buffer, .int v_buffered, .int v_size, .int v_at, .int v_behind, .int v_kind, .int v_wrong, .int v_wrongAt, .int v_errorAt, .long v_number, .ref h_worthFrom, .ref h_cutsFrom, .ref h_endFrom, .ref h_changes, .ref h_waysFrom, .int v_toCut, .int v_toLeave, .ref h_costAt, .ref h_places, .ref h_isCut, .ref h_written, .int v_writtenMany])), (h_a, .inl (cJ, 499, .inr (.inl v_a))), (h_worthFrom, .inl (cI, 33, .inl v_worthFrom_25)), (h_cutsFrom, .inl (cI, 33, .inl v_cutsFrom_26)), (h_endFrom, .inl (cI, 33, .inl v_endFrom_27)), (h_changes, .inl (cI, 32, .inl v_changes_19)), (h_waysFrom, .inl (cJ, 33, .inr (.inl v_waysFrom_28)))] [.int l2_23, .int l3_24] [] (k_X11_isChapter l D cI cJ cZ cO z h_t_ h_a h_fresh h_kept h_buffer h_worthFrom h_cutsFrom h_endFrom h_changes h_waysFrom h_costAt h_places h_isCut h_written l2_23 l3_24 v_keptMany v_thrown v_buffered v_size v_at v_behind v_kind v_wrong v_wrongAt v_errorAt v_number v_toCut v_toLeave v_writtenMany v_a r_29 hc_) gX11_laysDivisions_X11_isChapter rfl ⟨rfl, rfl⟩ hy_X11_isChapter ⟨Nat.le_of_ble_eq_true rfl, Nat.le_of_ble_eq_true rfl⟩ rfl rfl rfl (q0 := 0) rfl rfl rfl (Nat.le_of_ble_eq_true rfl) rfl dX11_laysDivisions_65 rfl rfl ?_
              refine gq_if_eq hC 78 dX11_laysDivisions_68 (by decide) (fun hc_34 => ?_) (fun hc_34 => ?_)
              · have hF := (if_pos hc_34).symm.trans hF
                refine gq_iinc hC 3 (l3_24 + (1 : Int32)) [(3, .int (l3_24 + (1 : Int32))), (0, .ref h_t_), (1, .int l1_14), (2, .int l2_23)] dX11_laysDivisions_78 rfl rfl (by decide) rfl ?_
                refine gq_goto hC 57 dX11_laysDivisions_81 (by decide) ?_
                refine gq_sub [(0, .ref h_t_), (1, .int l1_14), (2, .int l2_23), (3, .int (l3_24 + (1 : Int32)))] [1, 2, 3, 0] rfl ?_
                exact ih (l3_24 + (1 : Int32)) v_worthFrom_25 v_cutsFrom_26 v_endFrom_27 v_waysFrom_28 hF
              · have hF := (if_neg hc_34).symm.trans hF
                refine gq_aload_n hC 0 dX11_laysDivisions_71 rfl rfl ?_
                refine gq_iload_n hC 2 dX11_laysDivisions_72 rfl rfl ?_
                refine gq_iload_n hC 3 dX11_laysDivisions_73 rfl rfl ?_
                refine gq_iload_n hC 1 dX11_laysDivisions_74 rfl rfl ?_
                obtain ⟨v_worthFrom_30, v_cutsFrom_31, v_endFrom_32, v_waysFrom_33, hc_, hF⟩ := ob4_e hF
                refine gq_callVv hC [0, 1, 2, 3, 4, 5, 6] [(h_t_, .inr (11, [.ref h_a, .ref h_fresh, .ref h_kept, .int v_keptMany, .int v_thrown, .ref h_buffer, .int v_buffered, .int v_size, .int v_at, .int v_behind, .int v_kind, .int v_wrong, .int v_wrongAt, .int v_errorAt, .long v_number, .ref h_worthFrom, .ref h_cutsFrom, .ref h_endFrom, .ref h_changes, .ref h_waysFrom, .int v_toCut, .int v_toLeave, .ref h_costAt, .ref h_places, .ref h_isCut, .ref h_written, .int v_writtenMany])), (h_a, .inl (cJ, 499, .inr (.inl v_a))), (h_worthFrom, .inl (cI, 33, .inl v_worthFrom_30)), (h_cutsFrom, .inl (cI, 33, .inl v_cutsFrom_31)), (h_endFrom, .inl (cI, 33, .inl v_endFrom_32)), (h_changes, .inl (cI, 32, .inl v_changes_19)), (h_waysFrom, .inl (cJ, 33, .inr (.inl v_waysFrom_33)))] [.int l2_23, .int l3_24, .int l1_14] [] (k_X11_tries l D cI cJ cZ cO z h_t_ h_a h_worthFrom h_cutsFrom h_endFrom h_changes h_waysFrom h_fresh h_kept h_buffer h_costAt h_places h_isCut h_written l2_23 l3_24 l1_14 v_keptMany v_thrown v_buffered v_size v_at v_behind v_kind v_wrong v_wrongAt v_errorAt v_number v_toCut v_toLeave v_writtenMany v_a v_worthFrom_25 v_cutsFrom_26 v_endFrom_27 v_changes_19 v_waysFrom_28 v_worthFrom_30 v_cutsFrom_31 v_endFrom_32 v_waysFrom_33 hc_) gX11_laysDivisions_X11_tries rfl ⟨rfl, rfl⟩ hy_X11_tries ⟨Nat.le_of_ble_eq_true rfl, Nat.le_of_ble_eq_true rfl⟩ rfl rfl rfl (q0 := 0) rfl rfl rfl (Nat.le_of_ble_eq_true rfl) rfl dX11_laysDivisions_75 rfl rfl ?_
                refine gq_iinc hC 3 (l3_24 + (1 : Int32)) [(3, .int (l3_24 + (1 : Int32))), (0, .ref h_t_), (1, .int l1_14), (2, .int l2_23)] dX11_laysDivisions_78 rfl rfl (by decide) rfl ?_
                refine gq_goto hC 57 dX11_laysDivisions_81 (by decide) ?_
                refine gq_sub [(0, .ref h_t_), (1, .int l1_14), (2, .int l2_23), (3, .int (l3_24 + (1 : Int32)))] [1, 2, 3, 0] rfl ?_
                exact ih (l3_24 + (1 : Int32)) v_worthFrom_30 v_cutsFrom_31 v_endFrom_32 v_waysFrom_33 hF
        refine gq_sub [(0, .ref h_t_), (1, .int l1_14), (2, .int l2_15), (3, .int l2_15)] [1, 2, 3, 0] rfl ?_
        obtain ⟨e_40, e_41, e_42, e_43, hw_, hF⟩ := ob4_e hF
        refine lp57 l2_15 e_40 e_41 e_42 e_43 ?_ wF l2_15 (upd v_worthFrom_16 l2_15.toNatClampNeg (-1000000000 : Int32)) v_cutsFrom_17 v_endFrom_18 (vp_updL v_waysFrom_20 l2_15.toNatClampNeg (0 : Int64)) hw_
        refine gq_iinc hC 2 (l2_15 + (-1 : Int32)) [(2, .int (l2_15 + (-1 : Int32))), (0, .ref h_t_), (1, .int l1_14)] dX11_laysDivisions_84 rfl rfl (by decide) rfl ?_
        refine gq_goto hC 35 dX11_laysDivisions_87 (by decide) ?_
        refine gq_sub [(0, .ref h_t_), (1, .int l1_14), (2, .int (l2_15 + (-1 : Int32)))] [1, 2, 0] rfl ?_
        exact ih (l2_15 + (-1 : Int32)) e_40 e_41 e_42 e_43 hF
  refine gq_sub [(0, .ref h_t_), (1, .int r_1), (2, .int (r_1 - (1 : Int32)))] [1, 2, 0] rfl ?_
  obtain ⟨e_49, e_50, e_51, e_52, hw_, hF⟩ := ob4_e hF
  refine lp35 r_1 e_13 e_49 e_50 e_51 e_52 ?_ wF (r_1 - (1 : Int32)) v_worthFrom v_cutsFrom v_endFrom v_waysFrom hw_
  cases hF
  rw [hQ]
  exact gq_vret hC dX11_laysDivisions_90
theorem hy_X11_hasBest : yX11_hasBest.cls = RX11 ∧ yX11_hasBest.cls ≠ "java/lang/invoke/MethodHandle" ∧ yX11_hasBest.cls ≠ "java/lang/invoke/VarHandle" ∧ (parseMethodDescriptor yX11_hasBest.desc).map (fun d => d.parameters.length) = some 0 := by decide +kernel
set_option maxRecDepth 20000 in
set_option maxHeartbeats 4000000 in
theorem k_X11_hasBest (l : Launch) (D : va_G) (cI cJ cZ cO : ClassId) (z : Nat → Nat)   (h_t_ : Nat) (h_a : Nat) (h_worthFrom : Nat) (h_cutsFrom : Nat) (h_endFrom : Nat) (h_changes : Nat) (h_waysFrom : Nat) (h_fresh : Nat) (h_kept : Nat) (h_buffer : Nat) (h_costAt : Nat) (h_places : Nat) (h_isCut : Nat) (h_written : Nat)  (v_keptMany : Int32) (v_thrown : Int32) (v_buffered : Int32) (v_size : Int32) (v_at : Int32) (v_behind : Int32) (v_kind : Int32) (v_wrong : Int32) (v_wrongAt : Int32) (v_errorAt : Int32) (v_number : Int64) (v_toCut : Int32) (v_toLeave : Int32) (v_writtenMany : Int32) (v_a : Nat → Int64) (v_worthFrom : Nat → Int32) (v_cutsFrom : Nat → Int32) (v_endFrom : Nat → Int32) (v_changes : Nat → Int32) (v_waysFrom : Nat → Int64) (r_ : Int32) (w_worthFrom : Nat → Int32) (w_cutsFrom : Nat → Int32) (w_endFrom : Nat → Int32) (w_changes : Nat → Int32) (w_waysFrom : Nat → Int64) (hF : F_X11_hasBest v_toCut v_toLeave v_a v_worthFrom v_cutsFrom v_endFrom v_changes v_waysFrom = some (r_, w_worthFrom, w_cutsFrom, w_endFrom, w_changes, w_waysFrom)) : Mi l yX11_hasBest wsX11_hasBest (rmD 5) D (gq_ty cI cJ cZ cO) z [.ref h_t_] [(h_t_, .inr (11, [.ref h_a, .ref h_fresh, .ref h_kept, .int v_keptMany, .int v_thrown, .ref h_buffer, .int v_buffered, .int v_size, .int v_at, .int v_behind, .int v_kind, .int v_wrong, .int v_wrongAt, .int v_errorAt, .long v_number, .ref h_worthFrom, .ref h_cutsFrom, .ref h_endFrom, .ref h_changes, .ref h_waysFrom, .int v_toCut, .int v_toLeave, .ref h_costAt, .ref h_places, .ref h_isCut, .ref h_written, .int v_writtenMany])), (h_a, .inl (cJ, 499, .inr (.inl v_a))), (h_worthFrom, .inl (cI, 33, .inl v_worthFrom)), (h_cutsFrom, .inl (cI, 33, .inl v_cutsFrom)), (h_endFrom, .inl (cI, 33, .inl v_endFrom)), (h_changes, .inl (cI, 32, .inl v_changes)), (h_waysFrom, .inl (cJ, 33, .inr (.inl v_waysFrom)))] r_ [(h_t_, .inr (11, [.ref h_a, .ref h_fresh, .ref h_kept, .int v_keptMany, .int v_thrown, .ref h_buffer, .int v_buffered, .int v_size, .int v_at, .int v_behind, .int v_kind, .int v_wrong, .int v_wrongAt, .int v_errorAt, .long v_number, .ref h_worthFrom, .ref h_cutsFrom, .ref h_endFrom, .ref h_changes, .ref h_waysFrom, .int v_toCut, .int v_toLeave, .ref h_costAt, .ref h_places, .ref h_isCut, .ref h_written, .int v_writtenMany])), (h_a, .inl (cJ, 499, .inr (.inl v_a))), (h_worthFrom, .inl (cI, 33, .inl w_worthFrom)), (h_cutsFrom, .inl (cI, 33, .inl w_cutsFrom)), (h_endFrom, .inl (cI, 33, .inl w_endFrom)), (h_changes, .inl (cI, 32, .inl w_changes)), (h_waysFrom, .inl (cJ, 33, .inr (.inl w_waysFrom)))] 0 0 := by
  refine Mi.of (cc := cX11_hasBest) (maxL := 1) (by decide) rfl (Nat.le_of_ble_eq_true rfl) ⟨Nat.le_refl 0, Nat.le_refl 0⟩ ?_
  intro p e s m args below meth c A hC ha
  have hin_X11 : ∀ w ∈ wsX110, w ∈ wsX11_hasBest := by decide +kernel
  have hw_27 : Cond.fieldLink RX11 27 (TX11 15).1 (TX11 15).2.1 (TX11 15).2.2.1 ∈ wsX11_hasBest := by decide +kernel
  obtain ⟨Q, hQ⟩ : ∃ Q, Q = gq_Qi below D A args s r_ [(h_t_, .inr (11, [.ref h_a, .ref h_fresh, .ref h_kept, .int v_keptMany, .int v_thrown, .ref h_buffer, .int v_buffered, .int v_size, .int v_at, .int v_behind, .int v_kind, .int v_wrong, .int v_wrongAt, .int v_errorAt, .long v_number, .ref h_worthFrom, .ref h_cutsFrom, .ref h_endFrom, .ref h_changes, .ref h_waysFrom, .int v_toCut, .int v_toLeave, .ref h_costAt, .ref h_places, .ref h_isCut, .ref h_written, .int v_writtenMany])), (h_a, .inl (cJ, 499, .inr (.inl v_a))), (h_worthFrom, .inl (cI, 33, .inl w_worthFrom)), (h_cutsFrom, .inl (cI, 33, .inl w_cutsFrom)), (h_endFrom, .inl (cI, 33, .inl w_endFrom)), (h_changes, .inl (cI, 32, .inl w_changes)), (h_waysFrom, .inl (cJ, 33, .inr (.inl w_waysFrom)))] 0 0 := ⟨_, rfl⟩
  rw [← hQ]
  refine gq_loc [(0, .ref h_t_)] rfl ?_
  unfold F_X11_hasBest at hF
  refine gq_aload_n hC 0 dX11_hasBest_0 rfl rfl ?_
  obtain ⟨v_worthFrom_1, v_cutsFrom_2, v_endFrom_3, v_changes_4, v_waysFrom_5, hc_, hF⟩ := ob5_e hF
  refine gq_callVv hC [0, 1, 2, 3, 4, 5, 6] [(h_t_, .inr (11, [.ref h_a, .ref h_fresh, .ref h_kept, .int v_keptMany, .int v_thrown, .ref h_buffer, .int v_buffered, .int v_size, .int v_at, .int v_behind, .int v_kind, .int v_wrong, .int v_wrongAt, .int v_errorAt, .long v_number, .ref h_worthFrom, .ref h_cutsFrom, .ref h_endFrom, .ref h_changes, .ref h_waysFrom, .int v_toCut, .int v_toLeave, .ref h_costAt, .ref h_places, .ref h_isCut, .ref h_written, .int v_writtenMany])), (h_a, .inl (cJ, 499, .inr (.inl v_a))), (h_worthFrom, .inl (cI, 33, .inl v_worthFrom_1)), (h_cutsFrom, .inl (cI, 33, .inl v_cutsFrom_2)), (h_endFrom, .inl (cI, 33, .inl v_endFrom_3)), (h_changes, .inl (cI, 32, .inl v_changes_4)), (h_waysFrom, .inl (cJ, 33, .inr (.inl v_waysFrom_5)))] [] [] (k_X11_laysDivisions l D cI cJ cZ cO z h_t_ h_a h_worthFrom h_cutsFrom h_endFrom h_changes h_waysFrom h_fresh h_kept h_buffer h_costAt h_places h_isCut h_written v_keptMany v_thrown v_buffered v_size v_at v_behind v_kind v_wrong v_wrongAt v_errorAt v_number v_toCut v_toLeave v_writtenMany v_a v_worthFrom v_cutsFrom v_endFrom v_changes v_waysFrom v_worthFrom_1 v_cutsFrom_2 v_endFrom_3 v_changes_4 v_waysFrom_5 hc_) gX11_hasBest_X11_laysDivisions rfl ⟨rfl, rfl⟩ hy_X11_laysDivisions ⟨Nat.le_of_ble_eq_true rfl, Nat.le_of_ble_eq_true rfl⟩ rfl rfl rfl (q0 := 0) rfl rfl rfl (Nat.le_of_ble_eq_true rfl) rfl dX11_hasBest_1 rfl rfl ?_
  refine gq_aload_n hC 0 dX11_hasBest_4 rfl rfl ?_
  obtain ⟨r_6, hc_, hF⟩ := ob1_e hF
  refine gq_callVi hC [0, 1] [(h_t_, .inr (11, [.ref h_a, .ref h_fresh, .ref h_kept, .int v_keptMany, .int v_thrown, .ref h_buffer, .int v_buffered, .int v_size, .int v_at, .int v_behind, .int v_kind, .int v_wrong, .int v_wrongAt, .int v_errorAt, .long v_number, .ref h_worthFrom, .ref h_cutsFrom, .ref h_endFrom, .ref h_changes, .ref h_waysFrom, .int v_toCut, .int v_toLeave, .ref h_costAt, .ref h_places, .ref h_isCut, .ref h_written, .int v_writtenMany])), (h_a, .inl (cJ, 499, .inr (.inl v_a))), (h_worthFrom, .inl (cI, 33, .inl v_worthFrom_1)), (h_cutsFrom, .inl (cI, 33, .inl v_cutsFrom_2)), (h_endFrom, .inl (cI, 33, .inl v_endFrom_3)), (h_changes, .inl (cI, 32, .inl v_changes_4)), (h_waysFrom, .inl (cJ, 33, .inr (.inl v_waysFrom_5)))] [] [] (k_X11_many l D cI cJ cZ cO z h_t_ h_a h_fresh h_kept h_buffer h_worthFrom h_cutsFrom h_endFrom h_changes h_waysFrom h_costAt h_places h_isCut h_written v_keptMany v_thrown v_buffered v_size v_at v_behind v_kind v_wrong v_wrongAt v_errorAt v_number v_toCut v_toLeave v_writtenMany v_a r_6 hc_) gX11_hasBest_X11_many rfl ⟨rfl, rfl⟩ hy_X11_many ⟨Nat.le_of_ble_eq_true rfl, Nat.le_of_ble_eq_true rfl⟩ rfl rfl rfl (q0 := 0) rfl rfl rfl (Nat.le_of_ble_eq_true rfl) rfl dX11_hasBest_5 rfl rfl ?_
  refine gq_if_le hC 27 dX11_hasBest_8 (by decide) (fun hc_9 => ?_) (fun hc_9 => ?_)
  · have hF := (if_pos hc_9).symm.trans hF
    refine gq_iconst hC (0 : Int32) dX11_hasBest_27 (by decide) ?_
    cases hF
    rw [hQ]
    exact gq_iret hC rfl dX11_hasBest_28
  · have hF := (if_neg hc_9).symm.trans hF
    refine gq_aload_n hC 0 dX11_hasBest_11 rfl rfl ?_
    refine gq_get hC (kf := 15) 0 hin_X11 rfl rfl (by decide) hw_27 rfl dX11_hasBest_12 ?_
    refine gq_iconst hC (0 : Int32) dX11_hasBest_15 (by decide) ?_
    obtain ⟨hi_7, hF⟩ := gi_e hF
    refine gq_iald hC 2 0 rfl rfl hi_7 dX11_hasBest_16 ?_
    refine gq_ldcw hC (-1000000000 : Int32) dX11_hasBest_17 (by decide +kernel) ?_
    refine gq_icmp_eq hC 27 dX11_hasBest_20 (by decide) (fun hc_8 => ?_) (fun hc_8 => ?_)
    · have hF := (if_pos hc_8).symm.trans hF
      refine gq_iconst hC (0 : Int32) dX11_hasBest_27 (by decide) ?_
      cases hF
      rw [hQ]
      exact gq_iret hC rfl dX11_hasBest_28
    · have hF := (if_neg hc_8).symm.trans hF
      refine gq_iconst hC (1 : Int32) dX11_hasBest_23 (by decide) ?_
      refine gq_goto hC 28 dX11_hasBest_24 (by decide) ?_
      cases hF
      rw [hQ]
      exact gq_iret hC rfl dX11_hasBest_28
theorem hy_X11_beginOf : yX11_beginOf.cls = RX11 ∧ yX11_beginOf.cls ≠ "java/lang/invoke/MethodHandle" ∧ yX11_beginOf.cls ≠ "java/lang/invoke/VarHandle" ∧ (parseMethodDescriptor yX11_beginOf.desc).map (fun d => d.parameters.length) = some 1 := by decide +kernel
set_option maxRecDepth 20000 in
set_option maxHeartbeats 4000000 in
theorem k_X11_beginOf (l : Launch) (D : va_G) (cI cJ cZ cO : ClassId) (z : Nat → Nat)   (h_t_ : Nat) (h_endFrom : Nat) (h_a : Nat) (h_fresh : Nat) (h_kept : Nat) (h_buffer : Nat) (h_worthFrom : Nat) (h_cutsFrom : Nat) (h_changes : Nat) (h_waysFrom : Nat) (h_costAt : Nat) (h_places : Nat) (h_isCut : Nat) (h_written : Nat) (x1 : Int32) (v_keptMany : Int32) (v_thrown : Int32) (v_buffered : Int32) (v_size : Int32) (v_at : Int32) (v_behind : Int32) (v_kind : Int32) (v_wrong : Int32) (v_wrongAt : Int32) (v_errorAt : Int32) (v_number : Int64) (v_toCut : Int32) (v_toLeave : Int32) (v_writtenMany : Int32) (v_endFrom : Nat → Int32) (r_ : Int32) (hF : F_X11_beginOf x1 v_endFrom = some r_) : Mi l yX11_beginOf wsX11_beginOf (rmD 0) D (gq_ty cI cJ cZ cO) z [.ref h_t_, .int x1] [(h_t_, .inr (11, [.ref h_a, .ref h_fresh, .ref h_kept, .int v_keptMany, .int v_thrown, .ref h_buffer, .int v_buffered, .int v_size, .int v_at, .int v_behind, .int v_kind, .int v_wrong, .int v_wrongAt, .int v_errorAt, .long v_number, .ref h_worthFrom, .ref h_cutsFrom, .ref h_endFrom, .ref h_changes, .ref h_waysFrom, .int v_toCut, .int v_toLeave, .ref h_costAt, .ref h_places, .ref h_isCut, .ref h_written, .int v_writtenMany])), (h_endFrom, .inl (cI, 33, .inl v_endFrom))] r_ [(h_t_, .inr (11, [.ref h_a, .ref h_fresh, .ref h_kept, .int v_keptMany, .int v_thrown, .ref h_buffer, .int v_buffered, .int v_size, .int v_at, .int v_behind, .int v_kind, .int v_wrong, .int v_wrongAt, .int v_errorAt, .long v_number, .ref h_worthFrom, .ref h_cutsFrom, .ref h_endFrom, .ref h_changes, .ref h_waysFrom, .int v_toCut, .int v_toLeave, .ref h_costAt, .ref h_places, .ref h_isCut, .ref h_written, .int v_writtenMany])), (h_endFrom, .inl (cI, 33, .inl v_endFrom))] 0 0 := by
  refine Mi.of (cc := cX11_beginOf) (maxL := 4) (by decide) rfl (Nat.le_of_ble_eq_true rfl) ⟨Nat.le_refl 0, Nat.le_refl 0⟩ ?_
  intro p e s m args below meth c A hC ha
  have hin_X11 : ∀ w ∈ wsX110, w ∈ wsX11_beginOf := by decide +kernel
  have hw_33 : Cond.fieldLink RX11 33 (TX11 17).1 (TX11 17).2.1 (TX11 17).2.2.1 ∈ wsX11_beginOf := by decide +kernel
  obtain ⟨Q, hQ⟩ : ∃ Q, Q = gq_Qi below D A args s r_ [(h_t_, .inr (11, [.ref h_a, .ref h_fresh, .ref h_kept, .int v_keptMany, .int v_thrown, .ref h_buffer, .int v_buffered, .int v_size, .int v_at, .int v_behind, .int v_kind, .int v_wrong, .int v_wrongAt, .int v_errorAt, .long v_number, .ref h_worthFrom, .ref h_cutsFrom, .ref h_endFrom, .ref h_changes, .ref h_waysFrom, .int v_toCut, .int v_toLeave, .ref h_costAt, .ref h_places, .ref h_isCut, .ref h_written, .int v_writtenMany])), (h_endFrom, .inl (cI, 33, .inl v_endFrom))] 0 0 := ⟨_, rfl⟩
  rw [← hQ]
  refine gq_loc [(0, .ref h_t_), (1, .int x1)] rfl ?_
  unfold F_X11_beginOf at hF
  refine gq_iconst hC (0 : Int32) dX11_beginOf_0 (by decide) ?_
  refine gq_istore_n hC [(2, .int (0 : Int32)), (0, .ref h_t_), (1, .int x1)] dX11_beginOf_1 rfl (by decide) rfl ?_
  refine gq_iconst hC (0 : Int32) dX11_beginOf_2 (by decide) ?_
  refine gq_istore_n hC [(3, .int (0 : Int32)), (2, .int (0 : Int32)), (0, .ref h_t_), (1, .int x1)] dX11_beginOf_3 rfl (by decide) rfl ?_
  have lp4 : ∀ (e_5 : Int32), Gx p l e (rmD 0) s m args below meth c D A 4 Q 0 0 24 [(2, .int e_5)] [] [(h_t_, .inr (11, [.ref h_a, .ref h_fresh, .ref h_kept, .int v_keptMany, .int v_thrown, .ref h_buffer, .int v_buffered, .int v_size, .int v_at, .int v_behind, .int v_kind, .int v_wrong, .int v_wrongAt, .int v_errorAt, .long v_number, .ref h_worthFrom, .ref h_cutsFrom, .ref h_endFrom, .ref h_changes, .ref h_waysFrom, .int v_toCut, .int v_toLeave, .ref h_costAt, .ref h_places, .ref h_isCut, .ref h_written, .int v_writtenMany])), (h_endFrom, .inl (cI, 33, .inl v_endFrom))] → ∀ (N : Nat) (l2_1 : Int32) (l3_2 : Int32), wh (fun k q => S_X11_beginOf_4 x1 v_endFrom k q.1 q.2) N (l2_1, l3_2) = some e_5 → Gx p l e (rmD 0) s m args below meth c D A 4 Q 0 0 4 [(0, .ref h_t_), (1, .int x1), (2, .int l2_1), (3, .int l3_2)] [] [(h_t_, .inr (11, [.ref h_a, .ref h_fresh, .ref h_kept, .int v_keptMany, .int v_thrown, .ref h_buffer, .int v_buffered, .int v_size, .int v_at, .int v_behind, .int v_kind, .int v_wrong, .int v_wrongAt, .int v_errorAt, .long v_number, .ref h_worthFrom, .ref h_cutsFrom, .ref h_endFrom, .ref h_changes, .ref h_waysFrom, .int v_toCut, .int v_toLeave, .ref h_costAt, .ref h_places, .ref h_isCut, .ref h_written, .int v_writtenMany])), (h_endFrom, .inl (cI, 33, .inl v_endFrom))] := by
    intro e_5 hx0 N
    induction N with
    | zero => intro l2_1 l3_2 hw; exact absurd hw (wh_0 _ _ _)
    | succ N ih =>
      intro l2_1 l3_2 hw
      have hF : S_X11_beginOf_4 x1 v_endFrom (wh (fun k q => S_X11_beginOf_4 x1 v_endFrom k q.1 q.2) N) l2_1 l3_2 = some e_5 := hw
      unfold S_X11_beginOf_4 at hF
      refine gq_iload_n hC 3 dX11_beginOf_4 rfl rfl ?_
      refine gq_iload_n hC 1 dX11_beginOf_5 rfl rfl ?_
      refine gq_icmp_ge hC 24 dX11_beginOf_6 (by decide) (fun hc_4 => ?_) (fun hc_4 => ?_)
      · have hF := (if_pos hc_4).symm.trans hF
        refine gq_sub [(2, .int l2_1)] [2] rfl ?_
        cases hF
        exact hx0
      · have hF := (if_neg hc_4).symm.trans hF
        refine gq_aload_n hC 0 dX11_beginOf_9 rfl rfl ?_
        refine gq_get hC (kf := 17) 0 hin_X11 rfl rfl (by decide) hw_33 rfl dX11_beginOf_10 ?_
        refine gq_iload_n hC 2 dX11_beginOf_13 rfl rfl ?_
        obtain ⟨hi_3, hF⟩ := gi_e hF
        refine gq_iald hC 1 0 rfl rfl hi_3 dX11_beginOf_14 ?_
        refine gq_iconst hC (1 : Int32) dX11_beginOf_15 (by decide) ?_
        refine gq_iadd hC dX11_beginOf_16 ?_
        refine gq_istore_n hC [(2, .int ((v_endFrom l2_1.toNatClampNeg) + (1 : Int32))), (0, .ref h_t_), (1, .int x1), (3, .int l3_2)] dX11_beginOf_17 rfl (by decide) rfl ?_
        refine gq_iinc hC 3 (l3_2 + (1 : Int32)) [(3, .int (l3_2 + (1 : Int32))), (2, .int ((v_endFrom l2_1.toNatClampNeg) + (1 : Int32))), (0, .ref h_t_), (1, .int x1)] dX11_beginOf_18 rfl rfl (by decide) rfl ?_
        refine gq_goto hC 4 dX11_beginOf_21 (by decide) ?_
        refine gq_sub [(0, .ref h_t_), (1, .int x1), (2, .int ((v_endFrom l2_1.toNatClampNeg) + (1 : Int32))), (3, .int (l3_2 + (1 : Int32)))] [2, 3, 1, 0] rfl ?_
        exact ih ((v_endFrom l2_1.toNatClampNeg) + (1 : Int32)) (l3_2 + (1 : Int32)) hF
  refine gq_sub [(0, .ref h_t_), (1, .int x1), (2, .int (0 : Int32)), (3, .int (0 : Int32))] [2, 3, 1, 0] rfl ?_
  obtain ⟨e_6, hw_, hF⟩ := ob1_e hF
  refine lp4  e_6 ?_ wF (0 : Int32) (0 : Int32) hw_
  refine gq_iload_n hC 0 dX11_beginOf_24 rfl rfl ?_
  cases hF
  rw [hQ]
  exact gq_iret hC rfl dX11_beginOf_25
theorem hy_X11_laysCuts : yX11_laysCuts.cls = RX11 ∧ yX11_laysCuts.cls ≠ "java/lang/invoke/MethodHandle" ∧ yX11_laysCuts.cls ≠ "java/lang/invoke/VarHandle" ∧ (parseMethodDescriptor yX11_laysCuts.desc).map (fun d => d.parameters.length) = some 0 := by decide +kernel
set_option maxRecDepth 20000 in
set_option maxHeartbeats 4000000 in
theorem k_X11_laysCuts (l : Launch) (D : va_G) (cI cJ cZ cO : ClassId) (z : Nat → Nat)   (h_t_ : Nat) (h_a : Nat) (h_worthFrom : Nat) (h_cutsFrom : Nat) (h_endFrom : Nat) (h_changes : Nat) (h_waysFrom : Nat) (h_isCut : Nat) (h_fresh : Nat) (h_kept : Nat) (h_buffer : Nat) (h_costAt : Nat) (h_places : Nat) (h_written : Nat)  (v_keptMany : Int32) (v_thrown : Int32) (v_buffered : Int32) (v_size : Int32) (v_at : Int32) (v_behind : Int32) (v_kind : Int32) (v_wrong : Int32) (v_wrongAt : Int32) (v_errorAt : Int32) (v_number : Int64) (v_toCut : Int32) (v_toLeave : Int32) (v_writtenMany : Int32) (v_a : Nat → Int64) (v_worthFrom : Nat → Int32) (v_cutsFrom : Nat → Int32) (v_endFrom : Nat → Int32) (v_changes : Nat → Int32) (v_waysFrom : Nat → Int64) (v_isCut : Nat → Int32) (w_worthFrom : Nat → Int32) (w_cutsFrom : Nat → Int32) (w_endFrom : Nat → Int32) (w_changes : Nat → Int32) (w_waysFrom : Nat → Int64) (w_isCut : Nat → Int32) (hF : F_X11_laysCuts v_toCut v_toLeave v_a v_worthFrom v_cutsFrom v_endFrom v_changes v_waysFrom v_isCut = some (w_worthFrom, w_cutsFrom, w_endFrom, w_changes, w_waysFrom, w_isCut)) : Mv l yX11_laysCuts wsX11_laysCuts (rmD 6) D (gq_ty cI cJ cZ cO) z [.ref h_t_] [(h_t_, .inr (11, [.ref h_a, .ref h_fresh, .ref h_kept, .int v_keptMany, .int v_thrown, .ref h_buffer, .int v_buffered, .int v_size, .int v_at, .int v_behind, .int v_kind, .int v_wrong, .int v_wrongAt, .int v_errorAt, .long v_number, .ref h_worthFrom, .ref h_cutsFrom, .ref h_endFrom, .ref h_changes, .ref h_waysFrom, .int v_toCut, .int v_toLeave, .ref h_costAt, .ref h_places, .ref h_isCut, .ref h_written, .int v_writtenMany])), (h_a, .inl (cJ, 499, .inr (.inl v_a))), (h_worthFrom, .inl (cI, 33, .inl v_worthFrom)), (h_cutsFrom, .inl (cI, 33, .inl v_cutsFrom)), (h_endFrom, .inl (cI, 33, .inl v_endFrom)), (h_changes, .inl (cI, 32, .inl v_changes)), (h_waysFrom, .inl (cJ, 33, .inr (.inl v_waysFrom))), (h_isCut, .inl (cZ, 32, .inl v_isCut))] [(h_t_, .inr (11, [.ref h_a, .ref h_fresh, .ref h_kept, .int v_keptMany, .int v_thrown, .ref h_buffer, .int v_buffered, .int v_size, .int v_at, .int v_behind, .int v_kind, .int v_wrong, .int v_wrongAt, .int v_errorAt, .long v_number, .ref h_worthFrom, .ref h_cutsFrom, .ref h_endFrom, .ref h_changes, .ref h_waysFrom, .int v_toCut, .int v_toLeave, .ref h_costAt, .ref h_places, .ref h_isCut, .ref h_written, .int v_writtenMany])), (h_a, .inl (cJ, 499, .inr (.inl v_a))), (h_worthFrom, .inl (cI, 33, .inl w_worthFrom)), (h_cutsFrom, .inl (cI, 33, .inl w_cutsFrom)), (h_endFrom, .inl (cI, 33, .inl w_endFrom)), (h_changes, .inl (cI, 32, .inl w_changes)), (h_waysFrom, .inl (cJ, 33, .inr (.inl w_waysFrom))), (h_isCut, .inl (cZ, 32, .inl w_isCut))] 0 0 := by
  refine Mv.of (cc := cX11_laysCuts) (maxL := 2) (by decide) rfl (Nat.le_of_ble_eq_true rfl) ⟨Nat.le_refl 0, Nat.le_refl 0⟩ ?_
  intro p e s m args below meth c A hC ha
  have hin_X11 : ∀ w ∈ wsX110, w ∈ wsX11_laysCuts := by decide +kernel
  have hw_30 : Cond.fieldLink RX11 30 (TX11 16).1 (TX11 16).2.1 (TX11 16).2.2.1 ∈ wsX11_laysCuts := by decide +kernel
  have hw_33 : Cond.fieldLink RX11 33 (TX11 17).1 (TX11 17).2.1 (TX11 17).2.2.1 ∈ wsX11_laysCuts := by decide +kernel
  have hw_54 : Cond.fieldLink RX11 54 (TX11 24).1 (TX11 24).2.1 (TX11 24).2.2.1 ∈ wsX11_laysCuts := by decide +kernel
  obtain ⟨Q, hQ⟩ : ∃ Q, Q = gq_Qv below D A args s [(h_t_, .inr (11, [.ref h_a, .ref h_fresh, .ref h_kept, .int v_keptMany, .int v_thrown, .ref h_buffer, .int v_buffered, .int v_size, .int v_at, .int v_behind, .int v_kind, .int v_wrong, .int v_wrongAt, .int v_errorAt, .long v_number, .ref h_worthFrom, .ref h_cutsFrom, .ref h_endFrom, .ref h_changes, .ref h_waysFrom, .int v_toCut, .int v_toLeave, .ref h_costAt, .ref h_places, .ref h_isCut, .ref h_written, .int v_writtenMany])), (h_a, .inl (cJ, 499, .inr (.inl v_a))), (h_worthFrom, .inl (cI, 33, .inl w_worthFrom)), (h_cutsFrom, .inl (cI, 33, .inl w_cutsFrom)), (h_endFrom, .inl (cI, 33, .inl w_endFrom)), (h_changes, .inl (cI, 32, .inl w_changes)), (h_waysFrom, .inl (cJ, 33, .inr (.inl w_waysFrom))), (h_isCut, .inl (cZ, 32, .inl w_isCut))] 0 0 := ⟨_, rfl⟩
  rw [← hQ]
  refine gq_loc [(0, .ref h_t_)] rfl ?_
  unfold F_X11_laysCuts at hF
  refine gq_iconst hC (0 : Int32) dX11_laysCuts_0 (by decide) ?_
  refine gq_istore_n hC [(1, .int (0 : Int32)), (0, .ref h_t_)] dX11_laysCuts_1 rfl (by decide) rfl ?_
  have lp2 : ∀ (v_worthFrom_2 : Nat → Int32) (v_cutsFrom_3 : Nat → Int32) (v_endFrom_4 : Nat → Int32) (v_changes_5 : Nat → Int32) (v_waysFrom_6 : Nat → Int64), ∀ (e_10 : (Nat → Int32)), Gx p l e (rmD 6) s m args below meth c D A 2 Q 0 0 21 [(0, .ref h_t_)] [] [(h_t_, .inr (11, [.ref h_a, .ref h_fresh, .ref h_kept, .int v_keptMany, .int v_thrown, .ref h_buffer, .int v_buffered, .int v_size, .int v_at, .int v_behind, .int v_kind, .int v_wrong, .int v_wrongAt, .int v_errorAt, .long v_number, .ref h_worthFrom, .ref h_cutsFrom, .ref h_endFrom, .ref h_changes, .ref h_waysFrom, .int v_toCut, .int v_toLeave, .ref h_costAt, .ref h_places, .ref h_isCut, .ref h_written, .int v_writtenMany])), (h_a, .inl (cJ, 499, .inr (.inl v_a))), (h_worthFrom, .inl (cI, 33, .inl v_worthFrom_2)), (h_cutsFrom, .inl (cI, 33, .inl v_cutsFrom_3)), (h_endFrom, .inl (cI, 33, .inl v_endFrom_4)), (h_changes, .inl (cI, 32, .inl v_changes_5)), (h_waysFrom, .inl (cJ, 33, .inr (.inl v_waysFrom_6))), (h_isCut, .inl (cZ, 32, .inl e_10))] → ∀ (N : Nat) (l1_1 : Int32) (v_isCut_7 : Nat → Int32), wh (fun k q => S_X11_laysCuts_2 v_toCut v_toLeave v_a v_worthFrom_2 v_cutsFrom_3 v_endFrom_4 v_changes_5 v_waysFrom_6 k q.1 q.2) N (l1_1, v_isCut_7) = some e_10 → Gx p l e (rmD 6) s m args below meth c D A 2 Q 0 0 2 [(0, .ref h_t_), (1, .int l1_1)] [] [(h_t_, .inr (11, [.ref h_a, .ref h_fresh, .ref h_kept, .int v_keptMany, .int v_thrown, .ref h_buffer, .int v_buffered, .int v_size, .int v_at, .int v_behind, .int v_kind, .int v_wrong, .int v_wrongAt, .int v_errorAt, .long v_number, .ref h_worthFrom, .ref h_cutsFrom, .ref h_endFrom, .ref h_changes, .ref h_waysFrom, .int v_toCut, .int v_toLeave, .ref h_costAt, .ref h_places, .ref h_isCut, .ref h_written, .int v_writtenMany])), (h_a, .inl (cJ, 499, .inr (.inl v_a))), (h_worthFrom, .inl (cI, 33, .inl v_worthFrom_2)), (h_cutsFrom, .inl (cI, 33, .inl v_cutsFrom_3)), (h_endFrom, .inl (cI, 33, .inl v_endFrom_4)), (h_changes, .inl (cI, 32, .inl v_changes_5)), (h_waysFrom, .inl (cJ, 33, .inr (.inl v_waysFrom_6))), (h_isCut, .inl (cZ, 32, .inl v_isCut_7))] := by
    intro v_worthFrom_2 v_cutsFrom_3 v_endFrom_4 v_changes_5 v_waysFrom_6 e_10 hx0 N
    induction N with
    | zero => intro l1_1 v_isCut_7 hw; exact absurd hw (wh_0 _ _ _)
    | succ N ih =>
      intro l1_1 v_isCut_7 hw
      have hF : S_X11_laysCuts_2 v_toCut v_toLeave v_a v_worthFrom_2 v_cutsFrom_3 v_endFrom_4 v_changes_5 v_waysFrom_6 (wh (fun k q => S_X11_laysCuts_2 v_toCut v_toLeave v_a v_worthFrom_2 v_cutsFrom_3 v_endFrom_4 v_changes_5 v_waysFrom_6 k q.1 q.2) N) l1_1 v_isCut_7 = some e_10 := hw
      unfold S_X11_laysCuts_2 at hF
      refine gq_iload_n hC 1 dX11_laysCuts_2 rfl rfl ?_
      refine gq_bipush hC (32 : Int32) dX11_laysCuts_3 (by decide) ?_
      refine gq_icmp_ge hC 21 dX11_laysCuts_5 (by decide) (fun hc_9 => ?_) (fun hc_9 => ?_)
      · have hF := (if_pos hc_9).symm.trans hF
        refine gq_sub [(0, .ref h_t_)] [0] rfl ?_
        cases hF
        exact hx0
      · have hF := (if_neg hc_9).symm.trans hF
        refine gq_aload_n hC 0 dX11_laysCuts_8 rfl rfl ?_
        refine gq_get hC (kf := 24) 0 hin_X11 rfl rfl (by decide) hw_54 rfl dX11_laysCuts_9 ?_
        refine gq_iload_n hC 1 dX11_laysCuts_12 rfl rfl ?_
        refine gq_iconst hC (0 : Int32) dX11_laysCuts_13 (by decide) ?_
        obtain ⟨hi_8, hF⟩ := gi_e hF
        refine gq_zast hC 7 2 [(h_t_, .inr (11, [.ref h_a, .ref h_fresh, .ref h_kept, .int v_keptMany, .int v_thrown, .ref h_buffer, .int v_buffered, .int v_size, .int v_at, .int v_behind, .int v_kind, .int v_wrong, .int v_wrongAt, .int v_errorAt, .long v_number, .ref h_worthFrom, .ref h_cutsFrom, .ref h_endFrom, .ref h_changes, .ref h_waysFrom, .int v_toCut, .int v_toLeave, .ref h_costAt, .ref h_places, .ref h_isCut, .ref h_written, .int v_writtenMany])), (h_a, .inl (cJ, 499, .inr (.inl v_a))), (h_worthFrom, .inl (cI, 33, .inl v_worthFrom_2)), (h_cutsFrom, .inl (cI, 33, .inl v_cutsFrom_3)), (h_endFrom, .inl (cI, 33, .inl v_endFrom_4)), (h_changes, .inl (cI, 32, .inl v_changes_5)), (h_waysFrom, .inl (cJ, 33, .inr (.inl v_waysFrom_6))), (h_isCut, .inl (cZ, 32, .inl (upd v_isCut_7 l1_1.toNatClampNeg (vp_nar .boolean (0 : Int32)))))] rfl rfl hi_8 dX11_laysCuts_14 rfl ?_
        refine gq_iinc hC 1 (l1_1 + (1 : Int32)) [(1, .int (l1_1 + (1 : Int32))), (0, .ref h_t_)] dX11_laysCuts_15 rfl rfl (by decide) rfl ?_
        refine gq_goto hC 2 dX11_laysCuts_18 (by decide) ?_
        refine gq_sub [(0, .ref h_t_), (1, .int (l1_1 + (1 : Int32)))] [1, 0] rfl ?_
        exact ih (l1_1 + (1 : Int32)) (upd v_isCut_7 l1_1.toNatClampNeg (vp_nar .boolean (0 : Int32))) hF
  refine gq_sub [(0, .ref h_t_), (1, .int (0 : Int32))] [1, 0] rfl ?_
  obtain ⟨e_11, hw_, hF⟩ := ob1_e hF
  refine lp2 v_worthFrom v_cutsFrom v_endFrom v_changes v_waysFrom e_11 ?_ wF (0 : Int32) v_isCut hw_
  refine gq_aload_n hC 0 dX11_laysCuts_21 rfl rfl ?_
  obtain ⟨r_12, v_worthFrom_13, v_cutsFrom_14, v_endFrom_15, v_changes_16, v_waysFrom_17, hc_, hF⟩ := ob6_e hF
  refine gq_callVi hC [0, 1, 2, 3, 4, 5, 6] [(h_t_, .inr (11, [.ref h_a, .ref h_fresh, .ref h_kept, .int v_keptMany, .int v_thrown, .ref h_buffer, .int v_buffered, .int v_size, .int v_at, .int v_behind, .int v_kind, .int v_wrong, .int v_wrongAt, .int v_errorAt, .long v_number, .ref h_worthFrom, .ref h_cutsFrom, .ref h_endFrom, .ref h_changes, .ref h_waysFrom, .int v_toCut, .int v_toLeave, .ref h_costAt, .ref h_places, .ref h_isCut, .ref h_written, .int v_writtenMany])), (h_a, .inl (cJ, 499, .inr (.inl v_a))), (h_worthFrom, .inl (cI, 33, .inl v_worthFrom_13)), (h_cutsFrom, .inl (cI, 33, .inl v_cutsFrom_14)), (h_endFrom, .inl (cI, 33, .inl v_endFrom_15)), (h_changes, .inl (cI, 32, .inl v_changes_16)), (h_waysFrom, .inl (cJ, 33, .inr (.inl v_waysFrom_17))), (h_isCut, .inl (cZ, 32, .inl e_11))] [] [] (k_X11_hasBest l D cI cJ cZ cO z h_t_ h_a h_worthFrom h_cutsFrom h_endFrom h_changes h_waysFrom h_fresh h_kept h_buffer h_costAt h_places h_isCut h_written v_keptMany v_thrown v_buffered v_size v_at v_behind v_kind v_wrong v_wrongAt v_errorAt v_number v_toCut v_toLeave v_writtenMany v_a v_worthFrom v_cutsFrom v_endFrom v_changes v_waysFrom r_12 v_worthFrom_13 v_cutsFrom_14 v_endFrom_15 v_changes_16 v_waysFrom_17 hc_) gX11_laysCuts_X11_hasBest rfl ⟨rfl, rfl⟩ hy_X11_hasBest ⟨Nat.le_of_ble_eq_true rfl, Nat.le_of_ble_eq_true rfl⟩ rfl rfl rfl (q0 := 0) rfl rfl rfl (Nat.le_of_ble_eq_true rfl) rfl dX11_laysCuts_22 rfl rfl ?_
  refine gq_if_ne hC 29 dX11_laysCuts_25 (by decide) (fun hc_32 => ?_) (fun hc_32 => ?_)
  · have hF := (if_neg hc_32).symm.trans hF
    refine gq_iconst hC (0 : Int32) dX11_laysCuts_29 (by decide) ?_
    refine gq_istore_n hC [(1, .int (0 : Int32)), (0, .ref h_t_)] dX11_laysCuts_30 rfl (by decide) rfl ?_
    have lp31 : ∀ (v_worthFrom_19 : Nat → Int32) (v_cutsFrom_20 : Nat → Int32) (v_endFrom_21 : Nat → Int32) (v_changes_22 : Nat → Int32) (v_waysFrom_23 : Nat → Int64), ∀ (e_30 : (Nat → Int32)), Gx p l e (rmD 6) s m args below meth c D A 2 Q 0 0 63 [] [] [(h_t_, .inr (11, [.ref h_a, .ref h_fresh, .ref h_kept, .int v_keptMany, .int v_thrown, .ref h_buffer, .int v_buffered, .int v_size, .int v_at, .int v_behind, .int v_kind, .int v_wrong, .int v_wrongAt, .int v_errorAt, .long v_number, .ref h_worthFrom, .ref h_cutsFrom, .ref h_endFrom, .ref h_changes, .ref h_waysFrom, .int v_toCut, .int v_toLeave, .ref h_costAt, .ref h_places, .ref h_isCut, .ref h_written, .int v_writtenMany])), (h_a, .inl (cJ, 499, .inr (.inl v_a))), (h_worthFrom, .inl (cI, 33, .inl v_worthFrom_19)), (h_cutsFrom, .inl (cI, 33, .inl v_cutsFrom_20)), (h_endFrom, .inl (cI, 33, .inl v_endFrom_21)), (h_changes, .inl (cI, 32, .inl v_changes_22)), (h_waysFrom, .inl (cJ, 33, .inr (.inl v_waysFrom_23))), (h_isCut, .inl (cZ, 32, .inl e_30))] → ∀ (N : Nat) (l1_18 : Int32) (v_isCut_24 : Nat → Int32), wh (fun k q => S_X11_laysCuts_31 v_worthFrom_19 v_cutsFrom_20 v_endFrom_21 v_changes_22 v_waysFrom_23 k q.1 q.2) N (l1_18, v_isCut_24) = some e_30 → Gx p l e (rmD 6) s m args below meth c D A 2 Q 0 0 31 [(0, .ref h_t_), (1, .int l1_18)] [] [(h_t_, .inr (11, [.ref h_a, .ref h_fresh, .ref h_kept, .int v_keptMany, .int v_thrown, .ref h_buffer, .int v_buffered, .int v_size, .int v_at, .int v_behind, .int v_kind, .int v_wrong, .int v_wrongAt, .int v_errorAt, .long v_number, .ref h_worthFrom, .ref h_cutsFrom, .ref h_endFrom, .ref h_changes, .ref h_waysFrom, .int v_toCut, .int v_toLeave, .ref h_costAt, .ref h_places, .ref h_isCut, .ref h_written, .int v_writtenMany])), (h_a, .inl (cJ, 499, .inr (.inl v_a))), (h_worthFrom, .inl (cI, 33, .inl v_worthFrom_19)), (h_cutsFrom, .inl (cI, 33, .inl v_cutsFrom_20)), (h_endFrom, .inl (cI, 33, .inl v_endFrom_21)), (h_changes, .inl (cI, 32, .inl v_changes_22)), (h_waysFrom, .inl (cJ, 33, .inr (.inl v_waysFrom_23))), (h_isCut, .inl (cZ, 32, .inl v_isCut_24))] := by
      intro v_worthFrom_19 v_cutsFrom_20 v_endFrom_21 v_changes_22 v_waysFrom_23 e_30 hx0 N
      induction N with
      | zero => intro l1_18 v_isCut_24 hw; exact absurd hw (wh_0 _ _ _)
      | succ N ih =>
        intro l1_18 v_isCut_24 hw
        have hF : S_X11_laysCuts_31 v_worthFrom_19 v_cutsFrom_20 v_endFrom_21 v_changes_22 v_waysFrom_23 (wh (fun k q => S_X11_laysCuts_31 v_worthFrom_19 v_cutsFrom_20 v_endFrom_21 v_changes_22 v_waysFrom_23 k q.1 q.2) N) l1_18 v_isCut_24 = some e_30 := hw
        unfold S_X11_laysCuts_31 at hF
        refine gq_iload_n hC 1 dX11_laysCuts_31 rfl rfl ?_
        refine gq_aload_n hC 0 dX11_laysCuts_32 rfl rfl ?_
        refine gq_get hC (kf := 16) 0 hin_X11 rfl rfl (by decide) hw_30 rfl dX11_laysCuts_33 ?_
        refine gq_iconst hC (0 : Int32) dX11_laysCuts_36 (by decide) ?_
        obtain ⟨hi_25, hF⟩ := gi_e hF
        refine gq_iald hC 3 0 rfl rfl hi_25 dX11_laysCuts_37 ?_
        refine gq_icmp_ge hC 63 dX11_laysCuts_38 (by decide) (fun hc_29 => ?_) (fun hc_29 => ?_)
        · have hF := (if_pos hc_29).symm.trans hF
          refine gq_sub [] [] rfl ?_
          cases hF
          exact hx0
        · have hF := (if_neg hc_29).symm.trans hF
          refine gq_aload_n hC 0 dX11_laysCuts_41 rfl rfl ?_
          refine gq_get hC (kf := 24) 0 hin_X11 rfl rfl (by decide) hw_54 rfl dX11_laysCuts_42 ?_
          refine gq_aload_n hC 0 dX11_laysCuts_45 rfl rfl ?_
          refine gq_get hC (kf := 17) 0 hin_X11 rfl rfl (by decide) hw_33 rfl dX11_laysCuts_46 ?_
          refine gq_aload_n hC 0 dX11_laysCuts_49 rfl rfl ?_
          refine gq_iload_n hC 1 dX11_laysCuts_50 rfl rfl ?_
          obtain ⟨r_26, hc_, hF⟩ := ob1_e hF
          refine gq_callVi hC [0, 4] [(h_t_, .inr (11, [.ref h_a, .ref h_fresh, .ref h_kept, .int v_keptMany, .int v_thrown, .ref h_buffer, .int v_buffered, .int v_size, .int v_at, .int v_behind, .int v_kind, .int v_wrong, .int v_wrongAt, .int v_errorAt, .long v_number, .ref h_worthFrom, .ref h_cutsFrom, .ref h_endFrom, .ref h_changes, .ref h_waysFrom, .int v_toCut, .int v_toLeave, .ref h_costAt, .ref h_places, .ref h_isCut, .ref h_written, .int v_writtenMany])), (h_a, .inl (cJ, 499, .inr (.inl v_a))), (h_worthFrom, .inl (cI, 33, .inl v_worthFrom_19)), (h_cutsFrom, .inl (cI, 33, .inl v_cutsFrom_20)), (h_endFrom, .inl (cI, 33, .inl v_endFrom_21)), (h_changes, .inl (cI, 32, .inl v_changes_22)), (h_waysFrom, .inl (cJ, 33, .inr (.inl v_waysFrom_23))), (h_isCut, .inl (cZ, 32, .inl v_isCut_24))] [.int l1_18] [.ref h_endFrom, .ref h_isCut] (k_X11_beginOf l D cI cJ cZ cO z h_t_ h_endFrom h_a h_fresh h_kept h_buffer h_worthFrom h_cutsFrom h_changes h_waysFrom h_costAt h_places h_isCut h_written l1_18 v_keptMany v_thrown v_buffered v_size v_at v_behind v_kind v_wrong v_wrongAt v_errorAt v_number v_toCut v_toLeave v_writtenMany v_endFrom_21 r_26 hc_) gX11_laysCuts_X11_beginOf rfl ⟨rfl, rfl⟩ hy_X11_beginOf ⟨Nat.le_of_ble_eq_true rfl, Nat.le_of_ble_eq_true rfl⟩ rfl rfl rfl (q0 := 0) rfl rfl rfl (Nat.le_of_ble_eq_true rfl) rfl dX11_laysCuts_51 rfl rfl ?_
          obtain ⟨hi_27, hF⟩ := gi_e hF
          refine gq_iald hC 4 0 rfl rfl hi_27 dX11_laysCuts_54 ?_
          refine gq_iconst hC (1 : Int32) dX11_laysCuts_55 (by decide) ?_
          obtain ⟨hi_28, hF⟩ := gi_e hF
          refine gq_zast hC 7 2 [(h_t_, .inr (11, [.ref h_a, .ref h_fresh, .ref h_kept, .int v_keptMany, .int v_thrown, .ref h_buffer, .int v_buffered, .int v_size, .int v_at, .int v_behind, .int v_kind, .int v_wrong, .int v_wrongAt, .int v_errorAt, .long v_number, .ref h_worthFrom, .ref h_cutsFrom, .ref h_endFrom, .ref h_changes, .ref h_waysFrom, .int v_toCut, .int v_toLeave, .ref h_costAt, .ref h_places, .ref h_isCut, .ref h_written, .int v_writtenMany])), (h_a, .inl (cJ, 499, .inr (.inl v_a))), (h_worthFrom, .inl (cI, 33, .inl v_worthFrom_19)), (h_cutsFrom, .inl (cI, 33, .inl v_cutsFrom_20)), (h_endFrom, .inl (cI, 33, .inl v_endFrom_21)), (h_changes, .inl (cI, 32, .inl v_changes_22)), (h_waysFrom, .inl (cJ, 33, .inr (.inl v_waysFrom_23))), (h_isCut, .inl (cZ, 32, .inl (upd v_isCut_24 (v_endFrom_21 r_26.toNatClampNeg).toNatClampNeg (vp_nar .boolean (1 : Int32)))))] rfl rfl hi_28 dX11_laysCuts_56 rfl ?_
          refine gq_iinc hC 1 (l1_18 + (1 : Int32)) [(1, .int (l1_18 + (1 : Int32))), (0, .ref h_t_)] dX11_laysCuts_57 rfl rfl (by decide) rfl ?_
          refine gq_goto hC 31 dX11_laysCuts_60 (by decide) ?_
          refine gq_sub [(0, .ref h_t_), (1, .int (l1_18 + (1 : Int32)))] [1, 0] rfl ?_
          exact ih (l1_18 + (1 : Int32)) (upd v_isCut_24 (v_endFrom_21 r_26.toNatClampNeg).toNatClampNeg (vp_nar .boolean (1 : Int32))) hF
    refine gq_sub [(0, .ref h_t_), (1, .int (0 : Int32))] [1, 0] rfl ?_
    obtain ⟨e_31, hw_, hF⟩ := ob1_e hF
    refine lp31 v_worthFrom_13 v_cutsFrom_14 v_endFrom_15 v_changes_16 v_waysFrom_17 e_31 ?_ wF (0 : Int32) e_11 hw_
    cases hF
    rw [hQ]
    exact gq_vret hC dX11_laysCuts_63
  · have hF := (if_pos hc_32).symm.trans hF
    cases hF
    rw [hQ]
    exact gq_vret hC dX11_laysCuts_28
theorem hy_X11_ofSlot : yX11_ofSlot.cls = RX11 ∧ yX11_ofSlot.cls ≠ "java/lang/invoke/MethodHandle" ∧ yX11_ofSlot.cls ≠ "java/lang/invoke/VarHandle" ∧ (parseMethodDescriptor yX11_ofSlot.desc).map (fun d => d.parameters.length) = some 2 := by decide +kernel
set_option maxRecDepth 20000 in
set_option maxHeartbeats 4000000 in
theorem k_X11_ofSlot (l : Launch) (D : va_G) (cI cJ cZ cO : ClassId) (z : Nat → Nat)   (h_t_ : Nat) (h_a : Nat) (h_fresh : Nat) (h_kept : Nat) (h_buffer : Nat) (h_worthFrom : Nat) (h_cutsFrom : Nat) (h_endFrom : Nat) (h_changes : Nat) (h_waysFrom : Nat) (h_costAt : Nat) (h_places : Nat) (h_isCut : Nat) (h_written : Nat) (x1 : Int32) (x2 : Int32) (v_keptMany : Int32) (v_thrown : Int32) (v_buffered : Int32) (v_size : Int32) (v_at : Int32) (v_behind : Int32) (v_kind : Int32) (v_wrong : Int32) (v_wrongAt : Int32) (v_errorAt : Int32) (v_number : Int64) (v_toCut : Int32) (v_toLeave : Int32) (v_writtenMany : Int32) (v_a : Nat → Int64) (r_ : Int32) (hF : F_X11_ofSlot x1 x2 v_a = some r_) : Mi l yX11_ofSlot wsX11_ofSlot (rmD 0) D (gq_ty cI cJ cZ cO) z [.ref h_t_, .int x1, .int x2] [(h_t_, .inr (11, [.ref h_a, .ref h_fresh, .ref h_kept, .int v_keptMany, .int v_thrown, .ref h_buffer, .int v_buffered, .int v_size, .int v_at, .int v_behind, .int v_kind, .int v_wrong, .int v_wrongAt, .int v_errorAt, .long v_number, .ref h_worthFrom, .ref h_cutsFrom, .ref h_endFrom, .ref h_changes, .ref h_waysFrom, .int v_toCut, .int v_toLeave, .ref h_costAt, .ref h_places, .ref h_isCut, .ref h_written, .int v_writtenMany])), (h_a, .inl (cJ, 499, .inr (.inl v_a)))] r_ [(h_t_, .inr (11, [.ref h_a, .ref h_fresh, .ref h_kept, .int v_keptMany, .int v_thrown, .ref h_buffer, .int v_buffered, .int v_size, .int v_at, .int v_behind, .int v_kind, .int v_wrong, .int v_wrongAt, .int v_errorAt, .long v_number, .ref h_worthFrom, .ref h_cutsFrom, .ref h_endFrom, .ref h_changes, .ref h_waysFrom, .int v_toCut, .int v_toLeave, .ref h_costAt, .ref h_places, .ref h_isCut, .ref h_written, .int v_writtenMany])), (h_a, .inl (cJ, 499, .inr (.inl v_a)))] 0 0 := by
  refine Mi.of (cc := cX11_ofSlot) (maxL := 3) (by decide) rfl (Nat.le_of_ble_eq_true rfl) ⟨Nat.le_refl 0, Nat.le_refl 0⟩ ?_
  intro p e s m args below meth c A hC ha
  have hin_X11 : ∀ w ∈ wsX110, w ∈ wsX11_ofSlot := by decide +kernel
  have hw_9 : Cond.fieldLink RX11 9 (TX11 0).1 (TX11 0).2.1 (TX11 0).2.2.1 ∈ wsX11_ofSlot := by decide +kernel
  obtain ⟨Q, hQ⟩ : ∃ Q, Q = gq_Qi below D A args s r_ [(h_t_, .inr (11, [.ref h_a, .ref h_fresh, .ref h_kept, .int v_keptMany, .int v_thrown, .ref h_buffer, .int v_buffered, .int v_size, .int v_at, .int v_behind, .int v_kind, .int v_wrong, .int v_wrongAt, .int v_errorAt, .long v_number, .ref h_worthFrom, .ref h_cutsFrom, .ref h_endFrom, .ref h_changes, .ref h_waysFrom, .int v_toCut, .int v_toLeave, .ref h_costAt, .ref h_places, .ref h_isCut, .ref h_written, .int v_writtenMany])), (h_a, .inl (cJ, 499, .inr (.inl v_a)))] 0 0 := ⟨_, rfl⟩
  rw [← hQ]
  refine gq_loc [(0, .ref h_t_), (1, .int x1), (2, .int x2)] rfl ?_
  unfold F_X11_ofSlot at hF
  refine gq_aload_n hC 0 dX11_ofSlot_0 rfl rfl ?_
  refine gq_get hC (kf := 0) 0 hin_X11 rfl rfl (by decide) hw_9 rfl dX11_ofSlot_1 ?_
  refine gq_sipush hC (394 : Int32) dX11_ofSlot_4 (by decide) ?_
  refine gq_iconst hC (3 : Int32) dX11_ofSlot_7 (by decide) ?_
  refine gq_iload_n hC 1 dX11_ofSlot_8 rfl rfl ?_
  refine gq_imul hC dX11_ofSlot_9 ?_
  refine gq_iadd hC dX11_ofSlot_10 ?_
  refine gq_iload_n hC 2 dX11_ofSlot_11 rfl rfl ?_
  refine gq_iadd hC dX11_ofSlot_12 ?_
  obtain ⟨hi_1, hF⟩ := gi_e hF
  refine gq_lald hC 1 1 rfl rfl hi_1 dX11_ofSlot_13 ?_
  refine gq_l2i hC dX11_ofSlot_14 ?_
  cases hF
  rw [hQ]
  exact gq_iret hC rfl dX11_ofSlot_15
theorem hy_X11_away : yX11_away.cls = RX11 ∧ yX11_away.cls ≠ "java/lang/invoke/MethodHandle" ∧ yX11_away.cls ≠ "java/lang/invoke/VarHandle" ∧ (parseMethodDescriptor yX11_away.desc).map (fun d => d.parameters.length) = some 2 := by decide +kernel
set_option maxRecDepth 20000 in
set_option maxHeartbeats 4000000 in
theorem k_X11_away (l : Launch) (D : va_G) (cI cJ cZ cO : ClassId) (z : Nat → Nat)   (h_t_ : Nat) (h_a : Nat) (h_fresh : Nat) (h_kept : Nat) (h_buffer : Nat) (h_worthFrom : Nat) (h_cutsFrom : Nat) (h_endFrom : Nat) (h_changes : Nat) (h_waysFrom : Nat) (h_costAt : Nat) (h_places : Nat) (h_isCut : Nat) (h_written : Nat) (x1 : Int32) (x2 : Int32) (v_keptMany : Int32) (v_thrown : Int32) (v_buffered : Int32) (v_size : Int32) (v_at : Int32) (v_behind : Int32) (v_kind : Int32) (v_wrong : Int32) (v_wrongAt : Int32) (v_errorAt : Int32) (v_number : Int64) (v_toCut : Int32) (v_toLeave : Int32) (v_writtenMany : Int32) (v_a : Nat → Int64) (r_ : Int32) (hF : F_X11_away x1 x2 v_a = some r_) : Mi l yX11_away wsX11_away (rmD 2) D (gq_ty cI cJ cZ cO) z [.ref h_t_, .int x1, .int x2] [(h_t_, .inr (11, [.ref h_a, .ref h_fresh, .ref h_kept, .int v_keptMany, .int v_thrown, .ref h_buffer, .int v_buffered, .int v_size, .int v_at, .int v_behind, .int v_kind, .int v_wrong, .int v_wrongAt, .int v_errorAt, .long v_number, .ref h_worthFrom, .ref h_cutsFrom, .ref h_endFrom, .ref h_changes, .ref h_waysFrom, .int v_toCut, .int v_toLeave, .ref h_costAt, .ref h_places, .ref h_isCut, .ref h_written, .int v_writtenMany])), (h_a, .inl (cJ, 499, .inr (.inl v_a)))] r_ [(h_t_, .inr (11, [.ref h_a, .ref h_fresh, .ref h_kept, .int v_keptMany, .int v_thrown, .ref h_buffer, .int v_buffered, .int v_size, .int v_at, .int v_behind, .int v_kind, .int v_wrong, .int v_wrongAt, .int v_errorAt, .long v_number, .ref h_worthFrom, .ref h_cutsFrom, .ref h_endFrom, .ref h_changes, .ref h_waysFrom, .int v_toCut, .int v_toLeave, .ref h_costAt, .ref h_places, .ref h_isCut, .ref h_written, .int v_writtenMany])), (h_a, .inl (cJ, 499, .inr (.inl v_a)))] 0 0 := by
  refine Mi.of (cc := cX11_away) (maxL := 4) (by decide) rfl (Nat.le_of_ble_eq_true rfl) ⟨Nat.le_refl 0, Nat.le_refl 0⟩ ?_
  intro p e s m args below meth c A hC ha
  obtain ⟨Q, hQ⟩ : ∃ Q, Q = gq_Qi below D A args s r_ [(h_t_, .inr (11, [.ref h_a, .ref h_fresh, .ref h_kept, .int v_keptMany, .int v_thrown, .ref h_buffer, .int v_buffered, .int v_size, .int v_at, .int v_behind, .int v_kind, .int v_wrong, .int v_wrongAt, .int v_errorAt, .long v_number, .ref h_worthFrom, .ref h_cutsFrom, .ref h_endFrom, .ref h_changes, .ref h_waysFrom, .int v_toCut, .int v_toLeave, .ref h_costAt, .ref h_places, .ref h_isCut, .ref h_written, .int v_writtenMany])), (h_a, .inl (cJ, 499, .inr (.inl v_a)))] 0 0 := ⟨_, rfl⟩
  rw [← hQ]
  refine gq_loc [(0, .ref h_t_), (1, .int x1), (2, .int x2)] rfl ?_
  unfold F_X11_away at hF
  refine gq_aload_n hC 0 dX11_away_0 rfl rfl ?_
  refine gq_iload_n hC 2 dX11_away_1 rfl rfl ?_
  refine gq_iconst hC (1 : Int32) dX11_away_2 (by decide) ?_
  refine gq_iadd hC dX11_away_3 ?_
  obtain ⟨r_1, hc_, hF⟩ := ob1_e hF
  refine gq_callVi hC [0, 1] [(h_t_, .inr (11, [.ref h_a, .ref h_fresh, .ref h_kept, .int v_keptMany, .int v_thrown, .ref h_buffer, .int v_buffered, .int v_size, .int v_at, .int v_behind, .int v_kind, .int v_wrong, .int v_wrongAt, .int v_errorAt, .long v_number, .ref h_worthFrom, .ref h_cutsFrom, .ref h_endFrom, .ref h_changes, .ref h_waysFrom, .int v_toCut, .int v_toLeave, .ref h_costAt, .ref h_places, .ref h_isCut, .ref h_written, .int v_writtenMany])), (h_a, .inl (cJ, 499, .inr (.inl v_a)))] [.int (x2 + (1 : Int32))] [] (k_X11_spoken l D cI cJ cZ cO z h_t_ h_a h_fresh h_kept h_buffer h_worthFrom h_cutsFrom h_endFrom h_changes h_waysFrom h_costAt h_places h_isCut h_written (x2 + (1 : Int32)) v_keptMany v_thrown v_buffered v_size v_at v_behind v_kind v_wrong v_wrongAt v_errorAt v_number v_toCut v_toLeave v_writtenMany v_a r_1 hc_) gX11_away_X11_spoken rfl ⟨rfl, rfl⟩ hy_X11_spoken ⟨Nat.le_of_ble_eq_true rfl, Nat.le_of_ble_eq_true rfl⟩ rfl rfl rfl (q0 := 0) rfl rfl rfl (Nat.le_of_ble_eq_true rfl) rfl dX11_away_4 rfl rfl ?_
  refine gq_aload_n hC 0 dX11_away_7 rfl rfl ?_
  refine gq_iload_n hC 1 dX11_away_8 rfl rfl ?_
  refine gq_iconst hC (0 : Int32) dX11_away_9 (by decide) ?_
  obtain ⟨r_2, hc_, hF⟩ := ob1_e hF
  refine gq_callVi hC [0, 1] [(h_t_, .inr (11, [.ref h_a, .ref h_fresh, .ref h_kept, .int v_keptMany, .int v_thrown, .ref h_buffer, .int v_buffered, .int v_size, .int v_at, .int v_behind, .int v_kind, .int v_wrong, .int v_wrongAt, .int v_errorAt, .long v_number, .ref h_worthFrom, .ref h_cutsFrom, .ref h_endFrom, .ref h_changes, .ref h_waysFrom, .int v_toCut, .int v_toLeave, .ref h_costAt, .ref h_places, .ref h_isCut, .ref h_written, .int v_writtenMany])), (h_a, .inl (cJ, 499, .inr (.inl v_a)))] [.int x1, .int (0 : Int32)] [.int r_1] (k_X11_ofSlot l D cI cJ cZ cO z h_t_ h_a h_fresh h_kept h_buffer h_worthFrom h_cutsFrom h_endFrom h_changes h_waysFrom h_costAt h_places h_isCut h_written x1 (0 : Int32) v_keptMany v_thrown v_buffered v_size v_at v_behind v_kind v_wrong v_wrongAt v_errorAt v_number v_toCut v_toLeave v_writtenMany v_a r_2 hc_) gX11_away_X11_ofSlot rfl ⟨rfl, rfl⟩ hy_X11_ofSlot ⟨Nat.le_of_ble_eq_true rfl, Nat.le_of_ble_eq_true rfl⟩ rfl rfl rfl (q0 := 0) rfl rfl rfl (Nat.le_of_ble_eq_true rfl) rfl dX11_away_10 rfl rfl ?_
  refine gq_isub hC dX11_away_13 ?_
  refine gq_istore_n hC [(3, .int (r_1 - r_2)), (0, .ref h_t_), (1, .int x1), (2, .int x2)] dX11_away_14 rfl (by decide) rfl ?_
  refine gq_iload_n hC 0 dX11_away_15 rfl rfl ?_
  refine gq_if_ge hC 24 dX11_away_16 (by decide) (fun hc_3 => ?_) (fun hc_3 => ?_)
  · have hF := (if_pos hc_3).symm.trans hF
    refine gq_iload_n hC 0 dX11_away_24 rfl rfl ?_
    cases hF
    rw [hQ]
    exact gq_iret hC rfl dX11_away_25
  · have hF := (if_neg hc_3).symm.trans hF
    refine gq_iload_n hC 0 dX11_away_19 rfl rfl ?_
    refine gq_ineg hC dX11_away_20 ?_
    refine gq_goto hC 25 dX11_away_21 (by decide) ?_
    cases hF
    rw [hQ]
    exact gq_iret hC rfl dX11_away_25
theorem hy_X11_mayHave : yX11_mayHave.cls = RX11 ∧ yX11_mayHave.cls ≠ "java/lang/invoke/MethodHandle" ∧ yX11_mayHave.cls ≠ "java/lang/invoke/VarHandle" ∧ (parseMethodDescriptor yX11_mayHave.desc).map (fun d => d.parameters.length) = some 2 := by decide +kernel
set_option maxRecDepth 20000 in
set_option maxHeartbeats 4000000 in
theorem k_X11_mayHave (l : Launch) (D : va_G) (cI cJ cZ cO : ClassId) (z : Nat → Nat)   (h_t_ : Nat) (h_a : Nat) (h_fresh : Nat) (h_kept : Nat) (h_buffer : Nat) (h_worthFrom : Nat) (h_cutsFrom : Nat) (h_endFrom : Nat) (h_changes : Nat) (h_waysFrom : Nat) (h_costAt : Nat) (h_places : Nat) (h_isCut : Nat) (h_written : Nat) (x1 : Int32) (x2 : Int32) (v_keptMany : Int32) (v_thrown : Int32) (v_buffered : Int32) (v_size : Int32) (v_at : Int32) (v_behind : Int32) (v_kind : Int32) (v_wrong : Int32) (v_wrongAt : Int32) (v_errorAt : Int32) (v_number : Int64) (v_toCut : Int32) (v_toLeave : Int32) (v_writtenMany : Int32) (v_a : Nat → Int64) (r_ : Int32) (hF : F_X11_mayHave x1 x2 v_a = some r_) : Mi l yX11_mayHave wsX11_mayHave (rmD 3) D (gq_ty cI cJ cZ cO) z [.ref h_t_, .int x1, .int x2] [(h_t_, .inr (11, [.ref h_a, .ref h_fresh, .ref h_kept, .int v_keptMany, .int v_thrown, .ref h_buffer, .int v_buffered, .int v_size, .int v_at, .int v_behind, .int v_kind, .int v_wrong, .int v_wrongAt, .int v_errorAt, .long v_number, .ref h_worthFrom, .ref h_cutsFrom, .ref h_endFrom, .ref h_changes, .ref h_waysFrom, .int v_toCut, .int v_toLeave, .ref h_costAt, .ref h_places, .ref h_isCut, .ref h_written, .int v_writtenMany])), (h_a, .inl (cJ, 499, .inr (.inl v_a)))] r_ [(h_t_, .inr (11, [.ref h_a, .ref h_fresh, .ref h_kept, .int v_keptMany, .int v_thrown, .ref h_buffer, .int v_buffered, .int v_size, .int v_at, .int v_behind, .int v_kind, .int v_wrong, .int v_wrongAt, .int v_errorAt, .long v_number, .ref h_worthFrom, .ref h_cutsFrom, .ref h_endFrom, .ref h_changes, .ref h_waysFrom, .int v_toCut, .int v_toLeave, .ref h_costAt, .ref h_places, .ref h_isCut, .ref h_written, .int v_writtenMany])), (h_a, .inl (cJ, 499, .inr (.inl v_a)))] 0 0 := by
  refine Mi.of (cc := cX11_mayHave) (maxL := 3) (by decide) rfl (Nat.le_of_ble_eq_true rfl) ⟨Nat.le_refl 0, Nat.le_refl 0⟩ ?_
  intro p e s m args below meth c A hC ha
  obtain ⟨Q, hQ⟩ : ∃ Q, Q = gq_Qi below D A args s r_ [(h_t_, .inr (11, [.ref h_a, .ref h_fresh, .ref h_kept, .int v_keptMany, .int v_thrown, .ref h_buffer, .int v_buffered, .int v_size, .int v_at, .int v_behind, .int v_kind, .int v_wrong, .int v_wrongAt, .int v_errorAt, .long v_number, .ref h_worthFrom, .ref h_cutsFrom, .ref h_endFrom, .ref h_changes, .ref h_waysFrom, .int v_toCut, .int v_toLeave, .ref h_costAt, .ref h_places, .ref h_isCut, .ref h_written, .int v_writtenMany])), (h_a, .inl (cJ, 499, .inr (.inl v_a)))] 0 0 := ⟨_, rfl⟩
  rw [← hQ]
  refine gq_loc [(0, .ref h_t_), (1, .int x1), (2, .int x2)] rfl ?_
  unfold F_X11_mayHave at hF
  refine gq_aload_n hC 0 dX11_mayHave_0 rfl rfl ?_
  refine gq_iload_n hC 2 dX11_mayHave_1 rfl rfl ?_
  obtain ⟨r_1, hc_, hF⟩ := ob1_e hF
  refine gq_callVi hC [0, 1] [(h_t_, .inr (11, [.ref h_a, .ref h_fresh, .ref h_kept, .int v_keptMany, .int v_thrown, .ref h_buffer, .int v_buffered, .int v_size, .int v_at, .int v_behind, .int v_kind, .int v_wrong, .int v_wrongAt, .int v_errorAt, .long v_number, .ref h_worthFrom, .ref h_cutsFrom, .ref h_endFrom, .ref h_changes, .ref h_waysFrom, .int v_toCut, .int v_toLeave, .ref h_costAt, .ref h_places, .ref h_isCut, .ref h_written, .int v_writtenMany])), (h_a, .inl (cJ, 499, .inr (.inl v_a)))] [.int x2] [] (k_X11_isLong l D cI cJ cZ cO z h_t_ h_a h_fresh h_kept h_buffer h_worthFrom h_cutsFrom h_endFrom h_changes h_waysFrom h_costAt h_places h_isCut h_written x2 v_keptMany v_thrown v_buffered v_size v_at v_behind v_kind v_wrong v_wrongAt v_errorAt v_number v_toCut v_toLeave v_writtenMany v_a r_1 hc_) gX11_mayHave_X11_isLong rfl ⟨rfl, rfl⟩ hy_X11_isLong ⟨Nat.le_of_ble_eq_true rfl, Nat.le_of_ble_eq_true rfl⟩ rfl rfl rfl (q0 := 0) rfl rfl rfl (Nat.le_of_ble_eq_true rfl) rfl dX11_mayHave_2 rfl rfl ?_
  refine gq_if_eq hC 27 dX11_mayHave_5 (by decide) (fun hc_5 => ?_) (fun hc_5 => ?_)
  · have hF := (if_pos hc_5).symm.trans hF
    refine gq_iconst hC (0 : Int32) dX11_mayHave_27 (by decide) ?_
    cases hF
    rw [hQ]
    exact gq_iret hC rfl dX11_mayHave_28
  · have hF := (if_neg hc_5).symm.trans hF
    refine gq_aload_n hC 0 dX11_mayHave_8 rfl rfl ?_
    refine gq_iload_n hC 1 dX11_mayHave_9 rfl rfl ?_
    refine gq_iload_n hC 2 dX11_mayHave_10 rfl rfl ?_
    obtain ⟨r_2, hc_, hF⟩ := ob1_e hF
    refine gq_callVi hC [0, 1] [(h_t_, .inr (11, [.ref h_a, .ref h_fresh, .ref h_kept, .int v_keptMany, .int v_thrown, .ref h_buffer, .int v_buffered, .int v_size, .int v_at, .int v_behind, .int v_kind, .int v_wrong, .int v_wrongAt, .int v_errorAt, .long v_number, .ref h_worthFrom, .ref h_cutsFrom, .ref h_endFrom, .ref h_changes, .ref h_waysFrom, .int v_toCut, .int v_toLeave, .ref h_costAt, .ref h_places, .ref h_isCut, .ref h_written, .int v_writtenMany])), (h_a, .inl (cJ, 499, .inr (.inl v_a)))] [.int x1, .int x2] [] (k_X11_away l D cI cJ cZ cO z h_t_ h_a h_fresh h_kept h_buffer h_worthFrom h_cutsFrom h_endFrom h_changes h_waysFrom h_costAt h_places h_isCut h_written x1 x2 v_keptMany v_thrown v_buffered v_size v_at v_behind v_kind v_wrong v_wrongAt v_errorAt v_number v_toCut v_toLeave v_writtenMany v_a r_2 hc_) gX11_mayHave_X11_away rfl ⟨rfl, rfl⟩ hy_X11_away ⟨Nat.le_of_ble_eq_true rfl, Nat.le_of_ble_eq_true rfl⟩ rfl rfl rfl (q0 := 0) rfl rfl rfl (Nat.le_of_ble_eq_true rfl) rfl dX11_mayHave_11 rfl rfl ?_
    refine gq_aload_n hC 0 dX11_mayHave_14 rfl rfl ?_
    refine gq_iload_n hC 1 dX11_mayHave_15 rfl rfl ?_
    refine gq_iconst hC (2 : Int32) dX11_mayHave_16 (by decide) ?_
    obtain ⟨r_3, hc_, hF⟩ := ob1_e hF
    refine gq_callVi hC [0, 1] [(h_t_, .inr (11, [.ref h_a, .ref h_fresh, .ref h_kept, .int v_keptMany, .int v_thrown, .ref h_buffer, .int v_buffered, .int v_size, .int v_at, .int v_behind, .int v_kind, .int v_wrong, .int v_wrongAt, .int v_errorAt, .long v_number, .ref h_worthFrom, .ref h_cutsFrom, .ref h_endFrom, .ref h_changes, .ref h_waysFrom, .int v_toCut, .int v_toLeave, .ref h_costAt, .ref h_places, .ref h_isCut, .ref h_written, .int v_writtenMany])), (h_a, .inl (cJ, 499, .inr (.inl v_a)))] [.int x1, .int (2 : Int32)] [.int r_2] (k_X11_ofSlot l D cI cJ cZ cO z h_t_ h_a h_fresh h_kept h_buffer h_worthFrom h_cutsFrom h_endFrom h_changes h_waysFrom h_costAt h_places h_isCut h_written x1 (2 : Int32) v_keptMany v_thrown v_buffered v_size v_at v_behind v_kind v_wrong v_wrongAt v_errorAt v_number v_toCut v_toLeave v_writtenMany v_a r_3 hc_) gX11_mayHave_X11_ofSlot rfl ⟨rfl, rfl⟩ hy_X11_ofSlot ⟨Nat.le_of_ble_eq_true rfl, Nat.le_of_ble_eq_true rfl⟩ rfl rfl rfl (q0 := 0) rfl rfl rfl (Nat.le_of_ble_eq_true rfl) rfl dX11_mayHave_17 rfl rfl ?_
    refine gq_icmp_gt hC 27 dX11_mayHave_20 (by decide) (fun hc_4 => ?_) (fun hc_4 => ?_)
    · have hF := (if_pos hc_4).symm.trans hF
      refine gq_iconst hC (0 : Int32) dX11_mayHave_27 (by decide) ?_
      cases hF
      rw [hQ]
      exact gq_iret hC rfl dX11_mayHave_28
    · have hF := (if_neg hc_4).symm.trans hF
      refine gq_iconst hC (1 : Int32) dX11_mayHave_23 (by decide) ?_
      refine gq_goto hC 28 dX11_mayHave_24 (by decide) ?_
      cases hF
      rw [hQ]
      exact gq_iret hC rfl dX11_mayHave_28
theorem hy_X11_bestFrom : yX11_bestFrom.cls = RX11 ∧ yX11_bestFrom.cls ≠ "java/lang/invoke/MethodHandle" ∧ yX11_bestFrom.cls ≠ "java/lang/invoke/VarHandle" ∧ (parseMethodDescriptor yX11_bestFrom.desc).map (fun d => d.parameters.length) = some 3 := by decide +kernel
set_option maxRecDepth 20000 in
set_option maxHeartbeats 4000000 in
theorem k_X11_bestFrom (l : Launch) (D : va_G) (cI cJ cZ cO : ClassId) (z : Nat → Nat)   (h_t_ : Nat) (h_a : Nat) (h_costAt : Nat) (h_fresh : Nat) (h_kept : Nat) (h_buffer : Nat) (h_worthFrom : Nat) (h_cutsFrom : Nat) (h_endFrom : Nat) (h_changes : Nat) (h_waysFrom : Nat) (h_places : Nat) (h_isCut : Nat) (h_written : Nat) (x1 : Int32) (x2 : Int32) (x3 : Int32) (v_keptMany : Int32) (v_thrown : Int32) (v_buffered : Int32) (v_size : Int32) (v_at : Int32) (v_behind : Int32) (v_kind : Int32) (v_wrong : Int32) (v_wrongAt : Int32) (v_errorAt : Int32) (v_number : Int64) (v_toCut : Int32) (v_toLeave : Int32) (v_writtenMany : Int32) (v_a : Nat → Int64) (v_costAt : Nat → Int32) (r_ : Int32) (hF : F_X11_bestFrom x1 x2 x3 v_a v_costAt = some r_) : Mi l yX11_bestFrom wsX11_bestFrom (rmD 2) D (gq_ty cI cJ cZ cO) z [.ref h_t_, .int x1, .int x2, .int x3] [(h_t_, .inr (11, [.ref h_a, .ref h_fresh, .ref h_kept, .int v_keptMany, .int v_thrown, .ref h_buffer, .int v_buffered, .int v_size, .int v_at, .int v_behind, .int v_kind, .int v_wrong, .int v_wrongAt, .int v_errorAt, .long v_number, .ref h_worthFrom, .ref h_cutsFrom, .ref h_endFrom, .ref h_changes, .ref h_waysFrom, .int v_toCut, .int v_toLeave, .ref h_costAt, .ref h_places, .ref h_isCut, .ref h_written, .int v_writtenMany])), (h_a, .inl (cJ, 499, .inr (.inl v_a))), (h_costAt, .inl (cI, 160, .inl v_costAt))] r_ [(h_t_, .inr (11, [.ref h_a, .ref h_fresh, .ref h_kept, .int v_keptMany, .int v_thrown, .ref h_buffer, .int v_buffered, .int v_size, .int v_at, .int v_behind, .int v_kind, .int v_wrong, .int v_wrongAt, .int v_errorAt, .long v_number, .ref h_worthFrom, .ref h_cutsFrom, .ref h_endFrom, .ref h_changes, .ref h_waysFrom, .int v_toCut, .int v_toLeave, .ref h_costAt, .ref h_places, .ref h_isCut, .ref h_written, .int v_writtenMany])), (h_a, .inl (cJ, 499, .inr (.inl v_a))), (h_costAt, .inl (cI, 160, .inl v_costAt))] 0 0 := by
  refine Mi.of (cc := cX11_bestFrom) (maxL := 6) (by decide) rfl (Nat.le_of_ble_eq_true rfl) ⟨Nat.le_refl 0, Nat.le_refl 0⟩ ?_
  intro p e s m args below meth c A hC ha
  have hin_X11 : ∀ w ∈ wsX110, w ∈ wsX11_bestFrom := by decide +kernel
  have hw_48 : Cond.fieldLink RX11 48 (TX11 22).1 (TX11 22).2.1 (TX11 22).2.2.1 ∈ wsX11_bestFrom := by decide +kernel
  obtain ⟨Q, hQ⟩ : ∃ Q, Q = gq_Qi below D A args s r_ [(h_t_, .inr (11, [.ref h_a, .ref h_fresh, .ref h_kept, .int v_keptMany, .int v_thrown, .ref h_buffer, .int v_buffered, .int v_size, .int v_at, .int v_behind, .int v_kind, .int v_wrong, .int v_wrongAt, .int v_errorAt, .long v_number, .ref h_worthFrom, .ref h_cutsFrom, .ref h_endFrom, .ref h_changes, .ref h_waysFrom, .int v_toCut, .int v_toLeave, .ref h_costAt, .ref h_places, .ref h_isCut, .ref h_written, .int v_writtenMany])), (h_a, .inl (cJ, 499, .inr (.inl v_a))), (h_costAt, .inl (cI, 160, .inl v_costAt))] 0 0 := ⟨_, rfl⟩
  rw [← hQ]
  refine gq_loc [(0, .ref h_t_), (1, .int x1), (2, .int x2), (3, .int x3)] rfl ?_
  unfold F_X11_bestFrom at hF
  refine gq_iconst hC (-1 : Int32) dX11_bestFrom_0 (by decide) ?_
  refine gq_istore hC [(4, .int (-1 : Int32)), (0, .ref h_t_), (1, .int x1), (2, .int x2), (3, .int x3)] dX11_bestFrom_1 (by decide) rfl ?_
  refine gq_iload_n hC 3 dX11_bestFrom_3 rfl rfl ?_
  refine gq_istore hC [(5, .int x2), (4, .int (-1 : Int32)), (0, .ref h_t_), (1, .int x1), (2, .int x2), (3, .int x3)] dX11_bestFrom_4 (by decide) rfl ?_
  have lp6 : ∀ (e_13 : Int32), Gx p l e (rmD 2) s m args below meth c D A 6 Q 0 0 93 [(4, .int e_13)] [] [(h_t_, .inr (11, [.ref h_a, .ref h_fresh, .ref h_kept, .int v_keptMany, .int v_thrown, .ref h_buffer, .int v_buffered, .int v_size, .int v_at, .int v_behind, .int v_kind, .int v_wrong, .int v_wrongAt, .int v_errorAt, .long v_number, .ref h_worthFrom, .ref h_cutsFrom, .ref h_endFrom, .ref h_changes, .ref h_waysFrom, .int v_toCut, .int v_toLeave, .ref h_costAt, .ref h_places, .ref h_isCut, .ref h_written, .int v_writtenMany])), (h_a, .inl (cJ, 499, .inr (.inl v_a))), (h_costAt, .inl (cI, 160, .inl v_costAt))] → ∀ (N : Nat) (l4_1 : Int32) (l5_2 : Int32), wh (fun k q => S_X11_bestFrom_6 x1 x3 v_a v_costAt k q.1 q.2) N (l4_1, l5_2) = some e_13 → Gx p l e (rmD 2) s m args below meth c D A 6 Q 0 0 6 [(0, .ref h_t_), (1, .int x1), (3, .int x3), (4, .int l4_1), (5, .int l5_2)] [] [(h_t_, .inr (11, [.ref h_a, .ref h_fresh, .ref h_kept, .int v_keptMany, .int v_thrown, .ref h_buffer, .int v_buffered, .int v_size, .int v_at, .int v_behind, .int v_kind, .int v_wrong, .int v_wrongAt, .int v_errorAt, .long v_number, .ref h_worthFrom, .ref h_cutsFrom, .ref h_endFrom, .ref h_changes, .ref h_waysFrom, .int v_toCut, .int v_toLeave, .ref h_costAt, .ref h_places, .ref h_isCut, .ref h_written, .int v_writtenMany])), (h_a, .inl (cJ, 499, .inr (.inl v_a))), (h_costAt, .inl (cI, 160, .inl v_costAt))] := by
    intro e_13 hx0 N
    induction N with
    | zero => intro l4_1 l5_2 hw; exact absurd hw (wh_0 _ _ _)
    | succ N ih =>
      intro l4_1 l5_2 hw
      have hF : S_X11_bestFrom_6 x1 x3 v_a v_costAt (wh (fun k q => S_X11_bestFrom_6 x1 x3 v_a v_costAt k q.1 q.2) N) l4_1 l5_2 = some e_13 := hw
      unfold S_X11_bestFrom_6 at hF
      refine gq_iload hC 4 dX11_bestFrom_6 rfl ?_
      refine gq_aload_n hC 0 dX11_bestFrom_8 rfl rfl ?_
      obtain ⟨r_3, hc_, hF⟩ := ob1_e hF
      refine gq_callVi hC [0, 1] [(h_t_, .inr (11, [.ref h_a, .ref h_fresh, .ref h_kept, .int v_keptMany, .int v_thrown, .ref h_buffer, .int v_buffered, .int v_size, .int v_at, .int v_behind, .int v_kind, .int v_wrong, .int v_wrongAt, .int v_errorAt, .long v_number, .ref h_worthFrom, .ref h_cutsFrom, .ref h_endFrom, .ref h_changes, .ref h_waysFrom, .int v_toCut, .int v_toLeave, .ref h_costAt, .ref h_places, .ref h_isCut, .ref h_written, .int v_writtenMany])), (h_a, .inl (cJ, 499, .inr (.inl v_a))), (h_costAt, .inl (cI, 160, .inl v_costAt))] [] [.int l5_2] (k_X11_many l D cI cJ cZ cO z h_t_ h_a h_fresh h_kept h_buffer h_worthFrom h_cutsFrom h_endFrom h_changes h_waysFrom h_costAt h_places h_isCut h_written v_keptMany v_thrown v_buffered v_size v_at v_behind v_kind v_wrong v_wrongAt v_errorAt v_number v_toCut v_toLeave v_writtenMany v_a r_3 hc_) gX11_bestFrom_X11_many rfl ⟨rfl, rfl⟩ hy_X11_many ⟨Nat.le_of_ble_eq_true rfl, Nat.le_of_ble_eq_true rfl⟩ rfl rfl rfl (q0 := 0) rfl rfl rfl (Nat.le_of_ble_eq_true rfl) rfl dX11_bestFrom_9 rfl rfl ?_
      refine gq_iconst hC (1 : Int32) dX11_bestFrom_12 (by decide) ?_
      refine gq_isub hC dX11_bestFrom_13 ?_
      refine gq_icmp_ge hC 93 dX11_bestFrom_14 (by decide) (fun hc_12 => ?_) (fun hc_12 => ?_)
      · have hF := (if_pos hc_12).symm.trans hF
        refine gq_sub [(4, .int l4_1)] [3] rfl ?_
        cases hF
        exact hx0
      · have hF := (if_neg hc_12).symm.trans hF
        refine gq_aload_n hC 0 dX11_bestFrom_17 rfl rfl ?_
        refine gq_get hC (kf := 22) 0 hin_X11 rfl rfl (by decide) hw_48 rfl dX11_bestFrom_18 ?_
        refine gq_bipush hC (32 : Int32) dX11_bestFrom_21 (by decide) ?_
        refine gq_iload_n hC 1 dX11_bestFrom_23 rfl rfl ?_
        refine gq_imul hC dX11_bestFrom_24 ?_
        refine gq_iload hC 4 dX11_bestFrom_25 rfl ?_
        refine gq_iadd hC dX11_bestFrom_27 ?_
        obtain ⟨hi_4, hF⟩ := gi_e hF
        refine gq_iald hC 2 0 rfl rfl hi_4 dX11_bestFrom_28 ?_
        refine gq_ldcw hC (1000000000 : Int32) dX11_bestFrom_29 (by decide +kernel) ?_
        refine gq_icmp_eq hC 87 dX11_bestFrom_32 (by decide) (fun hc_11 => ?_) (fun hc_11 => ?_)
        · have hF := (if_pos hc_11).symm.trans hF
          refine gq_iinc hC 4 (l5_2 + (1 : Int32)) [(5, .int (l5_2 + (1 : Int32))), (0, .ref h_t_), (1, .int x1), (3, .int x3), (4, .int l4_1)] dX11_bestFrom_87 rfl rfl (by decide) rfl ?_
          refine gq_goto hC 6 dX11_bestFrom_90 (by decide) ?_
          refine gq_sub [(0, .ref h_t_), (1, .int x1), (3, .int x3), (4, .int l4_1), (5, .int (l5_2 + (1 : Int32)))] [1, 2, 3, 4, 0] rfl ?_
          exact ih l4_1 (l5_2 + (1 : Int32)) hF
        · have hF := (if_neg hc_11).symm.trans hF
          refine gq_aload_n hC 0 dX11_bestFrom_35 rfl rfl ?_
          refine gq_iload hC 4 dX11_bestFrom_36 rfl ?_
          refine gq_iconst hC (1 : Int32) dX11_bestFrom_38 (by decide) ?_
          refine gq_iadd hC dX11_bestFrom_39 ?_
          obtain ⟨r_5, hc_, hF⟩ := ob1_e hF
          refine gq_callVi hC [0, 1] [(h_t_, .inr (11, [.ref h_a, .ref h_fresh, .ref h_kept, .int v_keptMany, .int v_thrown, .ref h_buffer, .int v_buffered, .int v_size, .int v_at, .int v_behind, .int v_kind, .int v_wrong, .int v_wrongAt, .int v_errorAt, .long v_number, .ref h_worthFrom, .ref h_cutsFrom, .ref h_endFrom, .ref h_changes, .ref h_waysFrom, .int v_toCut, .int v_toLeave, .ref h_costAt, .ref h_places, .ref h_isCut, .ref h_written, .int v_writtenMany])), (h_a, .inl (cJ, 499, .inr (.inl v_a))), (h_costAt, .inl (cI, 160, .inl v_costAt))] [.int (l5_2 + (1 : Int32))] [] (k_X11_spoken l D cI cJ cZ cO z h_t_ h_a h_fresh h_kept h_buffer h_worthFrom h_cutsFrom h_endFrom h_changes h_waysFrom h_costAt h_places h_isCut h_written (l5_2 + (1 : Int32)) v_keptMany v_thrown v_buffered v_size v_at v_behind v_kind v_wrong v_wrongAt v_errorAt v_number v_toCut v_toLeave v_writtenMany v_a r_5 hc_) gX11_bestFrom_X11_spoken rfl ⟨rfl, rfl⟩ hy_X11_spoken ⟨Nat.le_of_ble_eq_true rfl, Nat.le_of_ble_eq_true rfl⟩ rfl rfl rfl (q0 := 0) rfl rfl rfl (Nat.le_of_ble_eq_true rfl) rfl dX11_bestFrom_40 rfl rfl ?_
          refine gq_iload_n hC 2 dX11_bestFrom_43 rfl rfl ?_
          refine gq_icmp_ge hC 50 dX11_bestFrom_44 (by decide) (fun hc_10 => ?_) (fun hc_10 => ?_)
          · have hF := (if_pos hc_10).symm.trans hF
            refine gq_iload hC 3 dX11_bestFrom_50 rfl ?_
            refine gq_iconst hC (-1 : Int32) dX11_bestFrom_52 (by decide) ?_
            refine gq_icmp_eq hC 83 dX11_bestFrom_53 (by decide) (fun hc_9 => ?_) (fun hc_9 => ?_)
            · have hF := (if_pos hc_9).symm.trans hF
              refine gq_iload hC 4 dX11_bestFrom_83 rfl ?_
              refine gq_istore hC [(4, .int l5_2), (0, .ref h_t_), (1, .int x1), (3, .int x3), (5, .int l5_2)] dX11_bestFrom_85 (by decide) rfl ?_
              refine gq_iinc hC 4 (l5_2 + (1 : Int32)) [(5, .int (l5_2 + (1 : Int32))), (4, .int l5_2), (0, .ref h_t_), (1, .int x1), (3, .int x3)] dX11_bestFrom_87 rfl rfl (by decide) rfl ?_
              refine gq_goto hC 6 dX11_bestFrom_90 (by decide) ?_
              refine gq_sub [(0, .ref h_t_), (1, .int x1), (3, .int x3), (4, .int l5_2), (5, .int (l5_2 + (1 : Int32)))] [2, 3, 4, 1, 0] rfl ?_
              exact ih l5_2 (l5_2 + (1 : Int32)) hF
            · have hF := (if_neg hc_9).symm.trans hF
              refine gq_aload_n hC 0 dX11_bestFrom_56 rfl rfl ?_
              refine gq_get hC (kf := 22) 0 hin_X11 rfl rfl (by decide) hw_48 rfl dX11_bestFrom_57 ?_
              refine gq_bipush hC (32 : Int32) dX11_bestFrom_60 (by decide) ?_
              refine gq_iload_n hC 1 dX11_bestFrom_62 rfl rfl ?_
              refine gq_imul hC dX11_bestFrom_63 ?_
              refine gq_iload hC 4 dX11_bestFrom_64 rfl ?_
              refine gq_iadd hC dX11_bestFrom_66 ?_
              obtain ⟨hi_6, hF⟩ := gi_e hF
              refine gq_iald hC 2 0 rfl rfl hi_6 dX11_bestFrom_67 ?_
              refine gq_aload_n hC 0 dX11_bestFrom_68 rfl rfl ?_
              refine gq_get hC (kf := 22) 0 hin_X11 rfl rfl (by decide) hw_48 rfl dX11_bestFrom_69 ?_
              refine gq_bipush hC (32 : Int32) dX11_bestFrom_72 (by decide) ?_
              refine gq_iload_n hC 1 dX11_bestFrom_74 rfl rfl ?_
              refine gq_imul hC dX11_bestFrom_75 ?_
              refine gq_iload hC 3 dX11_bestFrom_76 rfl ?_
              refine gq_iadd hC dX11_bestFrom_78 ?_
              obtain ⟨hi_7, hF⟩ := gi_e hF
              refine gq_iald hC 2 0 rfl rfl hi_7 dX11_bestFrom_79 ?_
              refine gq_icmp_ge hC 87 dX11_bestFrom_80 (by decide) (fun hc_8 => ?_) (fun hc_8 => ?_)
              · have hF := (if_pos hc_8).symm.trans hF
                refine gq_iinc hC 4 (l5_2 + (1 : Int32)) [(5, .int (l5_2 + (1 : Int32))), (0, .ref h_t_), (1, .int x1), (3, .int x3), (4, .int l4_1)] dX11_bestFrom_87 rfl rfl (by decide) rfl ?_
                refine gq_goto hC 6 dX11_bestFrom_90 (by decide) ?_
                refine gq_sub [(0, .ref h_t_), (1, .int x1), (3, .int x3), (4, .int l4_1), (5, .int (l5_2 + (1 : Int32)))] [1, 2, 3, 4, 0] rfl ?_
                exact ih l4_1 (l5_2 + (1 : Int32)) hF
              · have hF := (if_neg hc_8).symm.trans hF
                refine gq_iload hC 4 dX11_bestFrom_83 rfl ?_
                refine gq_istore hC [(4, .int l5_2), (0, .ref h_t_), (1, .int x1), (3, .int x3), (5, .int l5_2)] dX11_bestFrom_85 (by decide) rfl ?_
                refine gq_iinc hC 4 (l5_2 + (1 : Int32)) [(5, .int (l5_2 + (1 : Int32))), (4, .int l5_2), (0, .ref h_t_), (1, .int x1), (3, .int x3)] dX11_bestFrom_87 rfl rfl (by decide) rfl ?_
                refine gq_goto hC 6 dX11_bestFrom_90 (by decide) ?_
                refine gq_sub [(0, .ref h_t_), (1, .int x1), (3, .int x3), (4, .int l5_2), (5, .int (l5_2 + (1 : Int32)))] [2, 3, 4, 1, 0] rfl ?_
                exact ih l5_2 (l5_2 + (1 : Int32)) hF
          · have hF := (if_neg hc_10).symm.trans hF
            refine gq_goto hC 87 dX11_bestFrom_47 (by decide) ?_
            refine gq_iinc hC 4 (l5_2 + (1 : Int32)) [(5, .int (l5_2 + (1 : Int32))), (0, .ref h_t_), (1, .int x1), (3, .int x3), (4, .int l4_1)] dX11_bestFrom_87 rfl rfl (by decide) rfl ?_
            refine gq_goto hC 6 dX11_bestFrom_90 (by decide) ?_
            refine gq_sub [(0, .ref h_t_), (1, .int x1), (3, .int x3), (4, .int l4_1), (5, .int (l5_2 + (1 : Int32)))] [1, 2, 3, 4, 0] rfl ?_
            exact ih l4_1 (l5_2 + (1 : Int32)) hF
  refine gq_sub [(0, .ref h_t_), (1, .int x1), (3, .int x3), (4, .int (-1 : Int32)), (5, .int x2)] [2, 3, 5, 1, 0] rfl ?_
  obtain ⟨e_14, hw_, hF⟩ := ob1_e hF
  refine lp6  e_14 ?_ wF (-1 : Int32) x2 hw_
  refine gq_iload hC 0 dX11_bestFrom_93 rfl ?_
  cases hF
  rw [hQ]
  exact gq_iret hC rfl dX11_bestFrom_95
theorem hy_X11_costOf : yX11_costOf.cls = RX11 ∧ yX11_costOf.cls ≠ "java/lang/invoke/MethodHandle" ∧ yX11_costOf.cls ≠ "java/lang/invoke/VarHandle" ∧ (parseMethodDescriptor yX11_costOf.desc).map (fun d => d.parameters.length) = some 2 := by decide +kernel
set_option maxRecDepth 20000 in
set_option maxHeartbeats 4000000 in
theorem k_X11_costOf (l : Launch) (D : va_G) (cI cJ cZ cO : ClassId) (z : Nat → Nat)   (h_t_ : Nat) (h_a : Nat) (h_costAt : Nat) (h_isCut : Nat) (h_fresh : Nat) (h_kept : Nat) (h_buffer : Nat) (h_worthFrom : Nat) (h_cutsFrom : Nat) (h_endFrom : Nat) (h_changes : Nat) (h_waysFrom : Nat) (h_places : Nat) (h_written : Nat) (x1 : Int32) (x2 : Int32) (v_keptMany : Int32) (v_thrown : Int32) (v_buffered : Int32) (v_size : Int32) (v_at : Int32) (v_behind : Int32) (v_kind : Int32) (v_wrong : Int32) (v_wrongAt : Int32) (v_errorAt : Int32) (v_number : Int64) (v_toCut : Int32) (v_toLeave : Int32) (v_writtenMany : Int32) (v_a : Nat → Int64) (v_costAt : Nat → Int32) (v_isCut : Nat → Int32) (r_ : Int32) (hF : F_X11_costOf x1 x2 v_a v_costAt v_isCut = some r_) : Mi l yX11_costOf wsX11_costOf (rmD 4) D (gq_ty cI cJ cZ cO) z [.ref h_t_, .int x1, .int x2] [(h_t_, .inr (11, [.ref h_a, .ref h_fresh, .ref h_kept, .int v_keptMany, .int v_thrown, .ref h_buffer, .int v_buffered, .int v_size, .int v_at, .int v_behind, .int v_kind, .int v_wrong, .int v_wrongAt, .int v_errorAt, .long v_number, .ref h_worthFrom, .ref h_cutsFrom, .ref h_endFrom, .ref h_changes, .ref h_waysFrom, .int v_toCut, .int v_toLeave, .ref h_costAt, .ref h_places, .ref h_isCut, .ref h_written, .int v_writtenMany])), (h_a, .inl (cJ, 499, .inr (.inl v_a))), (h_costAt, .inl (cI, 160, .inl v_costAt)), (h_isCut, .inl (cZ, 32, .inl v_isCut))] r_ [(h_t_, .inr (11, [.ref h_a, .ref h_fresh, .ref h_kept, .int v_keptMany, .int v_thrown, .ref h_buffer, .int v_buffered, .int v_size, .int v_at, .int v_behind, .int v_kind, .int v_wrong, .int v_wrongAt, .int v_errorAt, .long v_number, .ref h_worthFrom, .ref h_cutsFrom, .ref h_endFrom, .ref h_changes, .ref h_waysFrom, .int v_toCut, .int v_toLeave, .ref h_costAt, .ref h_places, .ref h_isCut, .ref h_written, .int v_writtenMany])), (h_a, .inl (cJ, 499, .inr (.inl v_a))), (h_costAt, .inl (cI, 160, .inl v_costAt)), (h_isCut, .inl (cZ, 32, .inl v_isCut))] 0 0 := by
  refine Mi.of (cc := cX11_costOf) (maxL := 5) (by decide) rfl (Nat.le_of_ble_eq_true rfl) ⟨Nat.le_refl 0, Nat.le_refl 0⟩ ?_
  intro p e s m args below meth c A hC ha
  have hin_X11 : ∀ w ∈ wsX110, w ∈ wsX11_costOf := by decide +kernel
  have hw_9 : Cond.fieldLink RX11 9 (TX11 0).1 (TX11 0).2.1 (TX11 0).2.2.1 ∈ wsX11_costOf := by decide +kernel
  have hw_48 : Cond.fieldLink RX11 48 (TX11 22).1 (TX11 22).2.1 (TX11 22).2.2.1 ∈ wsX11_costOf := by decide +kernel
  have hw_54 : Cond.fieldLink RX11 54 (TX11 24).1 (TX11 24).2.1 (TX11 24).2.2.1 ∈ wsX11_costOf := by decide +kernel
  obtain ⟨Q, hQ⟩ : ∃ Q, Q = gq_Qi below D A args s r_ [(h_t_, .inr (11, [.ref h_a, .ref h_fresh, .ref h_kept, .int v_keptMany, .int v_thrown, .ref h_buffer, .int v_buffered, .int v_size, .int v_at, .int v_behind, .int v_kind, .int v_wrong, .int v_wrongAt, .int v_errorAt, .long v_number, .ref h_worthFrom, .ref h_cutsFrom, .ref h_endFrom, .ref h_changes, .ref h_waysFrom, .int v_toCut, .int v_toLeave, .ref h_costAt, .ref h_places, .ref h_isCut, .ref h_written, .int v_writtenMany])), (h_a, .inl (cJ, 499, .inr (.inl v_a))), (h_costAt, .inl (cI, 160, .inl v_costAt)), (h_isCut, .inl (cZ, 32, .inl v_isCut))] 0 0 := ⟨_, rfl⟩
  rw [← hQ]
  refine gq_loc [(0, .ref h_t_), (1, .int x1), (2, .int x2)] rfl ?_
  have jb34 : ∀ (st_1 : Int32) (st_2 : Int32), F_X11_costOf_b34 x1 x2 st_1 st_2 v_a v_costAt = some r_ → Gx p l e (rmD 4) s m args below meth c D A 5 Q 0 0 34 [(0, .ref h_t_), (1, .int x1), (2, .int x2)] [.int st_1, .int st_2] [(h_t_, .inr (11, [.ref h_a, .ref h_fresh, .ref h_kept, .int v_keptMany, .int v_thrown, .ref h_buffer, .int v_buffered, .int v_size, .int v_at, .int v_behind, .int v_kind, .int v_wrong, .int v_wrongAt, .int v_errorAt, .long v_number, .ref h_worthFrom, .ref h_cutsFrom, .ref h_endFrom, .ref h_changes, .ref h_waysFrom, .int v_toCut, .int v_toLeave, .ref h_costAt, .ref h_places, .ref h_isCut, .ref h_written, .int v_writtenMany])), (h_a, .inl (cJ, 499, .inr (.inl v_a))), (h_costAt, .inl (cI, 160, .inl v_costAt)), (h_isCut, .inl (cZ, 32, .inl v_isCut))] := by
    intro st_1 st_2 hF
    unfold F_X11_costOf_b34 at hF
    refine gq_iadd hC dX11_costOf_34 ?_
    refine gq_istore_n hC [(3, .int (st_2 + st_1)), (0, .ref h_t_), (1, .int x1), (2, .int x2)] dX11_costOf_35 rfl (by decide) rfl ?_
    refine gq_iload_n hC 2 dX11_costOf_36 rfl rfl ?_
    refine gq_i2l hC dX11_costOf_37 ?_
    refine gq_aload_n hC 1 dX11_costOf_38 rfl rfl ?_
    refine gq_get hC (kf := 0) 0 hin_X11 rfl rfl (by decide) hw_9 rfl dX11_costOf_39 ?_
    refine gq_bipush hC (8 : Int32) dX11_costOf_42 (by decide) ?_
    obtain ⟨hi_3, hF⟩ := gi_e hF
    refine gq_lald hC 1 1 rfl rfl hi_3 dX11_costOf_44 ?_
    refine gq_lconst hC (1 : Int64) dX11_costOf_45 (by decide) ?_
    refine gq_lsub hC dX11_costOf_46 ?_
    refine gq_lcmp hC dX11_costOf_47 ?_
    refine gq_if_ne hC 53 dX11_costOf_48 (by decide) (fun hc_9 => ?_) (fun hc_9 => ?_)
    · have hF := (if_neg hc_9).symm.trans hF
      refine gq_aload_n hC 1 dX11_costOf_53 rfl rfl ?_
      refine gq_iload_n hC 2 dX11_costOf_54 rfl rfl ?_
      refine gq_iconst hC (1 : Int32) dX11_costOf_55 (by decide) ?_
      refine gq_iadd hC dX11_costOf_56 ?_
      refine gq_iload_n hC 3 dX11_costOf_57 rfl rfl ?_
      refine gq_iconst hC (1 : Int32) dX11_costOf_58 (by decide) ?_
      refine gq_iadd hC dX11_costOf_59 ?_
      refine gq_aload_n hC 1 dX11_costOf_60 rfl rfl ?_
      refine gq_iload_n hC 3 dX11_costOf_61 rfl rfl ?_
      refine gq_iconst hC (1 : Int32) dX11_costOf_62 (by decide) ?_
      refine gq_iadd hC dX11_costOf_63 ?_
      obtain ⟨r_4, hc_, hF⟩ := ob1_e hF
      refine gq_callVi hC [0, 1] [(h_t_, .inr (11, [.ref h_a, .ref h_fresh, .ref h_kept, .int v_keptMany, .int v_thrown, .ref h_buffer, .int v_buffered, .int v_size, .int v_at, .int v_behind, .int v_kind, .int v_wrong, .int v_wrongAt, .int v_errorAt, .long v_number, .ref h_worthFrom, .ref h_cutsFrom, .ref h_endFrom, .ref h_changes, .ref h_waysFrom, .int v_toCut, .int v_toLeave, .ref h_costAt, .ref h_places, .ref h_isCut, .ref h_written, .int v_writtenMany])), (h_a, .inl (cJ, 499, .inr (.inl v_a))), (h_costAt, .inl (cI, 160, .inl v_costAt)), (h_isCut, .inl (cZ, 32, .inl v_isCut))] [.int (x2 + (1 : Int32))] [.int (x2 + (1 : Int32)), .int (x1 + (1 : Int32)), .ref h_t_] (k_X11_spoken l D cI cJ cZ cO z h_t_ h_a h_fresh h_kept h_buffer h_worthFrom h_cutsFrom h_endFrom h_changes h_waysFrom h_costAt h_places h_isCut h_written (x2 + (1 : Int32)) v_keptMany v_thrown v_buffered v_size v_at v_behind v_kind v_wrong v_wrongAt v_errorAt v_number v_toCut v_toLeave v_writtenMany v_a r_4 hc_) gX11_costOf_X11_spoken rfl ⟨rfl, rfl⟩ hy_X11_spoken ⟨Nat.le_of_ble_eq_true rfl, Nat.le_of_ble_eq_true rfl⟩ rfl rfl rfl (q0 := 0) rfl rfl rfl (Nat.le_of_ble_eq_true rfl) rfl dX11_costOf_64 rfl rfl ?_
      refine gq_aload_n hC 1 dX11_costOf_67 rfl rfl ?_
      refine gq_get hC (kf := 0) 0 hin_X11 rfl rfl (by decide) hw_9 rfl dX11_costOf_68 ?_
      refine gq_iconst hC (5 : Int32) dX11_costOf_71 (by decide) ?_
      obtain ⟨hi_5, hF⟩ := gi_e hF
      refine gq_lald hC 1 1 rfl rfl hi_5 dX11_costOf_72 ?_
      refine gq_l2i hC dX11_costOf_73 ?_
      refine gq_iadd hC dX11_costOf_74 ?_
      obtain ⟨r_6, hc_, hF⟩ := ob1_e hF
      refine gq_callVi hC [0, 1, 2] [(h_t_, .inr (11, [.ref h_a, .ref h_fresh, .ref h_kept, .int v_keptMany, .int v_thrown, .ref h_buffer, .int v_buffered, .int v_size, .int v_at, .int v_behind, .int v_kind, .int v_wrong, .int v_wrongAt, .int v_errorAt, .long v_number, .ref h_worthFrom, .ref h_cutsFrom, .ref h_endFrom, .ref h_changes, .ref h_waysFrom, .int v_toCut, .int v_toLeave, .ref h_costAt, .ref h_places, .ref h_isCut, .ref h_written, .int v_writtenMany])), (h_a, .inl (cJ, 499, .inr (.inl v_a))), (h_costAt, .inl (cI, 160, .inl v_costAt)), (h_isCut, .inl (cZ, 32, .inl v_isCut))] [.int (x1 + (1 : Int32)), .int (x2 + (1 : Int32)), .int (r_4 + ((v_a (5 : Int32).toNatClampNeg).toInt32))] [] (k_X11_bestFrom l D cI cJ cZ cO z h_t_ h_a h_costAt h_fresh h_kept h_buffer h_worthFrom h_cutsFrom h_endFrom h_changes h_waysFrom h_places h_isCut h_written (x1 + (1 : Int32)) (x2 + (1 : Int32)) (r_4 + ((v_a (5 : Int32).toNatClampNeg).toInt32)) v_keptMany v_thrown v_buffered v_size v_at v_behind v_kind v_wrong v_wrongAt v_errorAt v_number v_toCut v_toLeave v_writtenMany v_a v_costAt r_6 hc_) gX11_costOf_X11_bestFrom rfl ⟨rfl, rfl⟩ hy_X11_bestFrom ⟨Nat.le_of_ble_eq_true rfl, Nat.le_of_ble_eq_true rfl⟩ rfl rfl rfl (q0 := 0) rfl rfl rfl (Nat.le_of_ble_eq_true rfl) rfl dX11_costOf_75 rfl rfl ?_
      refine gq_istore hC [(4, .int r_6), (3, .int (st_2 + st_1)), (0, .ref h_t_), (1, .int x1), (2, .int x2)] dX11_costOf_78 (by decide) rfl ?_
      refine gq_iload hC 0 dX11_costOf_80 rfl ?_
      refine gq_iconst hC (-1 : Int32) dX11_costOf_82 (by decide) ?_
      refine gq_icmp_ne hC 92 dX11_costOf_83 (by decide) (fun hc_8 => ?_) (fun hc_8 => ?_)
      · have hF := (if_neg hc_8).symm.trans hF
        refine gq_iload_n hC 1 dX11_costOf_92 rfl rfl ?_
        refine gq_aload_n hC 2 dX11_costOf_93 rfl rfl ?_
        refine gq_get hC (kf := 22) 0 hin_X11 rfl rfl (by decide) hw_48 rfl dX11_costOf_94 ?_
        refine gq_bipush hC (32 : Int32) dX11_costOf_97 (by decide) ?_
        refine gq_iload_n hC 3 dX11_costOf_99 rfl rfl ?_
        refine gq_iconst hC (1 : Int32) dX11_costOf_100 (by decide) ?_
        refine gq_iadd hC dX11_costOf_101 ?_
        refine gq_imul hC dX11_costOf_102 ?_
        refine gq_iload hC 0 dX11_costOf_103 rfl ?_
        refine gq_iadd hC dX11_costOf_105 ?_
        obtain ⟨hi_7, hF⟩ := gi_e hF
        refine gq_iald hC 2 0 rfl rfl hi_7 dX11_costOf_106 ?_
        refine gq_iadd hC dX11_costOf_107 ?_
        cases hF
        rw [hQ]
        exact gq_iret hC rfl dX11_costOf_108
      · have hF := (if_pos hc_8).symm.trans hF
        refine gq_ldcw hC (1000000000 : Int32) dX11_costOf_86 (by decide +kernel) ?_
        refine gq_goto hC 108 dX11_costOf_89 (by decide) ?_
        cases hF
        rw [hQ]
        exact gq_iret hC rfl dX11_costOf_108
    · have hF := (if_pos hc_9).symm.trans hF
      refine gq_iload_n hC 0 dX11_costOf_51 rfl rfl ?_
      cases hF
      rw [hQ]
      exact gq_iret hC rfl dX11_costOf_52
  unfold F_X11_costOf at hF
  refine gq_aload_n hC 0 dX11_costOf_0 rfl rfl ?_
  refine gq_iload_n hC 1 dX11_costOf_1 rfl rfl ?_
  refine gq_iload_n hC 2 dX11_costOf_2 rfl rfl ?_
  obtain ⟨r_10, hc_, hF⟩ := ob1_e hF
  refine gq_callVi hC [0, 1] [(h_t_, .inr (11, [.ref h_a, .ref h_fresh, .ref h_kept, .int v_keptMany, .int v_thrown, .ref h_buffer, .int v_buffered, .int v_size, .int v_at, .int v_behind, .int v_kind, .int v_wrong, .int v_wrongAt, .int v_errorAt, .long v_number, .ref h_worthFrom, .ref h_cutsFrom, .ref h_endFrom, .ref h_changes, .ref h_waysFrom, .int v_toCut, .int v_toLeave, .ref h_costAt, .ref h_places, .ref h_isCut, .ref h_written, .int v_writtenMany])), (h_a, .inl (cJ, 499, .inr (.inl v_a))), (h_costAt, .inl (cI, 160, .inl v_costAt)), (h_isCut, .inl (cZ, 32, .inl v_isCut))] [.int x1, .int x2] [] (k_X11_mayHave l D cI cJ cZ cO z h_t_ h_a h_fresh h_kept h_buffer h_worthFrom h_cutsFrom h_endFrom h_changes h_waysFrom h_costAt h_places h_isCut h_written x1 x2 v_keptMany v_thrown v_buffered v_size v_at v_behind v_kind v_wrong v_wrongAt v_errorAt v_number v_toCut v_toLeave v_writtenMany v_a r_10 hc_) gX11_costOf_X11_mayHave rfl ⟨rfl, rfl⟩ hy_X11_mayHave ⟨Nat.le_of_ble_eq_true rfl, Nat.le_of_ble_eq_true rfl⟩ rfl rfl rfl (q0 := 0) rfl rfl rfl (Nat.le_of_ble_eq_true rfl) rfl dX11_costOf_3 rfl rfl ?_
  refine gq_if_ne hC 13 dX11_costOf_6 (by decide) (fun hc_14 => ?_) (fun hc_14 => ?_)
  · have hF := (if_neg hc_14).symm.trans hF
    refine gq_aload_n hC 0 dX11_costOf_13 rfl rfl ?_
    refine gq_iload_n hC 1 dX11_costOf_14 rfl rfl ?_
    refine gq_iload_n hC 2 dX11_costOf_15 rfl rfl ?_
    obtain ⟨r_11, hc_, hF⟩ := ob1_e hF
    refine gq_callVi hC [0, 1] [(h_t_, .inr (11, [.ref h_a, .ref h_fresh, .ref h_kept, .int v_keptMany, .int v_thrown, .ref h_buffer, .int v_buffered, .int v_size, .int v_at, .int v_behind, .int v_kind, .int v_wrong, .int v_wrongAt, .int v_errorAt, .long v_number, .ref h_worthFrom, .ref h_cutsFrom, .ref h_endFrom, .ref h_changes, .ref h_waysFrom, .int v_toCut, .int v_toLeave, .ref h_costAt, .ref h_places, .ref h_isCut, .ref h_written, .int v_writtenMany])), (h_a, .inl (cJ, 499, .inr (.inl v_a))), (h_costAt, .inl (cI, 160, .inl v_costAt)), (h_isCut, .inl (cZ, 32, .inl v_isCut))] [.int x1, .int x2] [] (k_X11_away l D cI cJ cZ cO z h_t_ h_a h_fresh h_kept h_buffer h_worthFrom h_cutsFrom h_endFrom h_changes h_waysFrom h_costAt h_places h_isCut h_written x1 x2 v_keptMany v_thrown v_buffered v_size v_at v_behind v_kind v_wrong v_wrongAt v_errorAt v_number v_toCut v_toLeave v_writtenMany v_a r_11 hc_) gX11_costOf_X11_away rfl ⟨rfl, rfl⟩ hy_X11_away ⟨Nat.le_of_ble_eq_true rfl, Nat.le_of_ble_eq_true rfl⟩ rfl rfl rfl (q0 := 0) rfl rfl rfl (Nat.le_of_ble_eq_true rfl) rfl dX11_costOf_16 rfl rfl ?_
    refine gq_aload_n hC 0 dX11_costOf_19 rfl rfl ?_
    refine gq_get hC (kf := 24) 0 hin_X11 rfl rfl (by decide) hw_54 rfl dX11_costOf_20 ?_
    refine gq_iload_n hC 2 dX11_costOf_23 rfl rfl ?_
    obtain ⟨hi_12, hF⟩ := gi_e hF
    refine gq_zald hC 3 2 rfl rfl hi_12 dX11_costOf_24 ?_
    refine gq_if_eq hC 32 dX11_costOf_25 (by decide) (fun hc_13 => ?_) (fun hc_13 => ?_)
    · have hF := (if_pos hc_13).symm.trans hF
      refine gq_bipush hC (20 : Int32) dX11_costOf_32 (by decide) ?_
      exact jb34 (20 : Int32) r_11 hF
    · have hF := (if_neg hc_13).symm.trans hF
      refine gq_iconst hC (0 : Int32) dX11_costOf_28 (by decide) ?_
      refine gq_goto hC 34 dX11_costOf_29 (by decide) ?_
      exact jb34 (0 : Int32) r_11 hF
  · have hF := (if_pos hc_14).symm.trans hF
    refine gq_ldcw hC (1000000000 : Int32) dX11_costOf_9 (by decide +kernel) ?_
    cases hF
    rw [hQ]
    exact gq_iret hC rfl dX11_costOf_12
theorem hy_X11_laysPlaces : yX11_laysPlaces.cls = RX11 ∧ yX11_laysPlaces.cls ≠ "java/lang/invoke/MethodHandle" ∧ yX11_laysPlaces.cls ≠ "java/lang/invoke/VarHandle" ∧ (parseMethodDescriptor yX11_laysPlaces.desc).map (fun d => d.parameters.length) = some 0 := by decide +kernel
set_option maxRecDepth 20000 in
set_option maxHeartbeats 4000000 in
theorem k_X11_laysPlaces (l : Launch) (D : va_G) (cI cJ cZ cO : ClassId) (z : Nat → Nat)   (h_t_ : Nat) (h_a : Nat) (h_worthFrom : Nat) (h_cutsFrom : Nat) (h_endFrom : Nat) (h_changes : Nat) (h_waysFrom : Nat) (h_costAt : Nat) (h_places : Nat) (h_isCut : Nat) (h_fresh : Nat) (h_kept : Nat) (h_buffer : Nat) (h_written : Nat)  (v_keptMany : Int32) (v_thrown : Int32) (v_buffered : Int32) (v_size : Int32) (v_at : Int32) (v_behind : Int32) (v_kind : Int32) (v_wrong : Int32) (v_wrongAt : Int32) (v_errorAt : Int32) (v_number : Int64) (v_toCut : Int32) (v_toLeave : Int32) (v_writtenMany : Int32) (v_a : Nat → Int64) (v_worthFrom : Nat → Int32) (v_cutsFrom : Nat → Int32) (v_endFrom : Nat → Int32) (v_changes : Nat → Int32) (v_waysFrom : Nat → Int64) (v_costAt : Nat → Int32) (v_places : Nat → Int32) (v_isCut : Nat → Int32) (r_ : Int32) (w_worthFrom : Nat → Int32) (w_cutsFrom : Nat → Int32) (w_endFrom : Nat → Int32) (w_changes : Nat → Int32) (w_waysFrom : Nat → Int64) (w_costAt : Nat → Int32) (w_places : Nat → Int32) (w_isCut : Nat → Int32) (hF : F_X11_laysPlaces v_toCut v_toLeave v_a v_worthFrom v_cutsFrom v_endFrom v_changes v_waysFrom v_costAt v_places v_isCut = some (r_, w_worthFrom, w_cutsFrom, w_endFrom, w_changes, w_waysFrom, w_costAt, w_places, w_isCut)) : Mi l yX11_laysPlaces wsX11_laysPlaces (rmD 7) D (gq_ty cI cJ cZ cO) z [.ref h_t_] [(h_t_, .inr (11, [.ref h_a, .ref h_fresh, .ref h_kept, .int v_keptMany, .int v_thrown, .ref h_buffer, .int v_buffered, .int v_size, .int v_at, .int v_behind, .int v_kind, .int v_wrong, .int v_wrongAt, .int v_errorAt, .long v_number, .ref h_worthFrom, .ref h_cutsFrom, .ref h_endFrom, .ref h_changes, .ref h_waysFrom, .int v_toCut, .int v_toLeave, .ref h_costAt, .ref h_places, .ref h_isCut, .ref h_written, .int v_writtenMany])), (h_a, .inl (cJ, 499, .inr (.inl v_a))), (h_worthFrom, .inl (cI, 33, .inl v_worthFrom)), (h_cutsFrom, .inl (cI, 33, .inl v_cutsFrom)), (h_endFrom, .inl (cI, 33, .inl v_endFrom)), (h_changes, .inl (cI, 32, .inl v_changes)), (h_waysFrom, .inl (cJ, 33, .inr (.inl v_waysFrom))), (h_costAt, .inl (cI, 160, .inl v_costAt)), (h_places, .inl (cI, 5, .inl v_places)), (h_isCut, .inl (cZ, 32, .inl v_isCut))] r_ [(h_t_, .inr (11, [.ref h_a, .ref h_fresh, .ref h_kept, .int v_keptMany, .int v_thrown, .ref h_buffer, .int v_buffered, .int v_size, .int v_at, .int v_behind, .int v_kind, .int v_wrong, .int v_wrongAt, .int v_errorAt, .long v_number, .ref h_worthFrom, .ref h_cutsFrom, .ref h_endFrom, .ref h_changes, .ref h_waysFrom, .int v_toCut, .int v_toLeave, .ref h_costAt, .ref h_places, .ref h_isCut, .ref h_written, .int v_writtenMany])), (h_a, .inl (cJ, 499, .inr (.inl v_a))), (h_worthFrom, .inl (cI, 33, .inl w_worthFrom)), (h_cutsFrom, .inl (cI, 33, .inl w_cutsFrom)), (h_endFrom, .inl (cI, 33, .inl w_endFrom)), (h_changes, .inl (cI, 32, .inl w_changes)), (h_waysFrom, .inl (cJ, 33, .inr (.inl w_waysFrom))), (h_costAt, .inl (cI, 160, .inl w_costAt)), (h_places, .inl (cI, 5, .inl w_places)), (h_isCut, .inl (cZ, 32, .inl w_isCut))] 0 0 := by
  refine Mi.of (cc := cX11_laysPlaces) (maxL := 5) (by decide) rfl (Nat.le_of_ble_eq_true rfl) ⟨Nat.le_refl 0, Nat.le_refl 0⟩ ?_
  intro p e s m args below meth c A hC ha
  have hin_X11 : ∀ w ∈ wsX110, w ∈ wsX11_laysPlaces := by decide +kernel
  have hw_9 : Cond.fieldLink RX11 9 (TX11 0).1 (TX11 0).2.1 (TX11 0).2.2.1 ∈ wsX11_laysPlaces := by decide +kernel
  have hw_48 : Cond.fieldLink RX11 48 (TX11 22).1 (TX11 22).2.1 (TX11 22).2.2.1 ∈ wsX11_laysPlaces := by decide +kernel
  have hw_51 : Cond.fieldLink RX11 51 (TX11 23).1 (TX11 23).2.1 (TX11 23).2.2.1 ∈ wsX11_laysPlaces := by decide +kernel
  obtain ⟨Q, hQ⟩ : ∃ Q, Q = gq_Qi below D A args s r_ [(h_t_, .inr (11, [.ref h_a, .ref h_fresh, .ref h_kept, .int v_keptMany, .int v_thrown, .ref h_buffer, .int v_buffered, .int v_size, .int v_at, .int v_behind, .int v_kind, .int v_wrong, .int v_wrongAt, .int v_errorAt, .long v_number, .ref h_worthFrom, .ref h_cutsFrom, .ref h_endFrom, .ref h_changes, .ref h_waysFrom, .int v_toCut, .int v_toLeave, .ref h_costAt, .ref h_places, .ref h_isCut, .ref h_written, .int v_writtenMany])), (h_a, .inl (cJ, 499, .inr (.inl v_a))), (h_worthFrom, .inl (cI, 33, .inl w_worthFrom)), (h_cutsFrom, .inl (cI, 33, .inl w_cutsFrom)), (h_endFrom, .inl (cI, 33, .inl w_endFrom)), (h_changes, .inl (cI, 32, .inl w_changes)), (h_waysFrom, .inl (cJ, 33, .inr (.inl w_waysFrom))), (h_costAt, .inl (cI, 160, .inl w_costAt)), (h_places, .inl (cI, 5, .inl w_places)), (h_isCut, .inl (cZ, 32, .inl w_isCut))] 0 0 := ⟨_, rfl⟩
  rw [← hQ]
  refine gq_loc [(0, .ref h_t_)] rfl ?_
  unfold F_X11_laysPlaces at hF
  refine gq_aload_n hC 0 dX11_laysPlaces_0 rfl rfl ?_
  obtain ⟨v_worthFrom_1, v_cutsFrom_2, v_endFrom_3, v_changes_4, v_waysFrom_5, v_isCut_6, hc_, hF⟩ := ob6_e hF
  refine gq_callVv hC [0, 1, 2, 3, 4, 5, 6, 9] [(h_t_, .inr (11, [.ref h_a, .ref h_fresh, .ref h_kept, .int v_keptMany, .int v_thrown, .ref h_buffer, .int v_buffered, .int v_size, .int v_at, .int v_behind, .int v_kind, .int v_wrong, .int v_wrongAt, .int v_errorAt, .long v_number, .ref h_worthFrom, .ref h_cutsFrom, .ref h_endFrom, .ref h_changes, .ref h_waysFrom, .int v_toCut, .int v_toLeave, .ref h_costAt, .ref h_places, .ref h_isCut, .ref h_written, .int v_writtenMany])), (h_a, .inl (cJ, 499, .inr (.inl v_a))), (h_worthFrom, .inl (cI, 33, .inl v_worthFrom_1)), (h_cutsFrom, .inl (cI, 33, .inl v_cutsFrom_2)), (h_endFrom, .inl (cI, 33, .inl v_endFrom_3)), (h_changes, .inl (cI, 32, .inl v_changes_4)), (h_waysFrom, .inl (cJ, 33, .inr (.inl v_waysFrom_5))), (h_costAt, .inl (cI, 160, .inl v_costAt)), (h_places, .inl (cI, 5, .inl v_places)), (h_isCut, .inl (cZ, 32, .inl v_isCut_6))] [] [] (k_X11_laysCuts l D cI cJ cZ cO z h_t_ h_a h_worthFrom h_cutsFrom h_endFrom h_changes h_waysFrom h_isCut h_fresh h_kept h_buffer h_costAt h_places h_written v_keptMany v_thrown v_buffered v_size v_at v_behind v_kind v_wrong v_wrongAt v_errorAt v_number v_toCut v_toLeave v_writtenMany v_a v_worthFrom v_cutsFrom v_endFrom v_changes v_waysFrom v_isCut v_worthFrom_1 v_cutsFrom_2 v_endFrom_3 v_changes_4 v_waysFrom_5 v_isCut_6 hc_) gX11_laysPlaces_X11_laysCuts rfl ⟨rfl, rfl⟩ hy_X11_laysCuts ⟨Nat.le_of_ble_eq_true rfl, Nat.le_of_ble_eq_true rfl⟩ rfl rfl rfl (q0 := 0) rfl rfl rfl (Nat.le_of_ble_eq_true rfl) rfl dX11_laysPlaces_1 rfl rfl ?_
  refine gq_aload_n hC 0 dX11_laysPlaces_4 rfl rfl ?_
  refine gq_get hC (kf := 0) 0 hin_X11 rfl rfl (by decide) hw_9 rfl dX11_laysPlaces_5 ?_
  refine gq_bipush hC (8 : Int32) dX11_laysPlaces_8 (by decide) ?_
  obtain ⟨hi_7, hF⟩ := gi_e hF
  refine gq_lald hC 1 1 rfl rfl hi_7 dX11_laysPlaces_10 ?_
  refine gq_l2i hC dX11_laysPlaces_11 ?_
  refine gq_istore_n hC [(1, .int ((v_a (8 : Int32).toNatClampNeg).toInt32)), (0, .ref h_t_)] dX11_laysPlaces_12 rfl (by decide) rfl ?_
  refine gq_iload_n hC 0 dX11_laysPlaces_13 rfl rfl ?_
  refine gq_iconst hC (1 : Int32) dX11_laysPlaces_14 (by decide) ?_
  refine gq_isub hC dX11_laysPlaces_15 ?_
  refine gq_istore_n hC [(2, .int (((v_a (8 : Int32).toNatClampNeg).toInt32) - (1 : Int32))), (1, .int ((v_a (8 : Int32).toNatClampNeg).toInt32)), (0, .ref h_t_)] dX11_laysPlaces_16 rfl (by decide) rfl ?_
  have lp17 : ∀ (l1_8 : Int32) (v_worthFrom_10 : Nat → Int32) (v_cutsFrom_11 : Nat → Int32) (v_endFrom_12 : Nat → Int32) (v_changes_13 : Nat → Int32) (v_waysFrom_14 : Nat → Int64) (v_places_16 : Nat → Int32) (v_isCut_17 : Nat → Int32), ∀ (e_28 : (Nat → Int32)), Gx p l e (rmD 7) s m args below meth c D A 5 Q 0 0 62 [(0, .ref h_t_), (1, .int l1_8)] [] [(h_t_, .inr (11, [.ref h_a, .ref h_fresh, .ref h_kept, .int v_keptMany, .int v_thrown, .ref h_buffer, .int v_buffered, .int v_size, .int v_at, .int v_behind, .int v_kind, .int v_wrong, .int v_wrongAt, .int v_errorAt, .long v_number, .ref h_worthFrom, .ref h_cutsFrom, .ref h_endFrom, .ref h_changes, .ref h_waysFrom, .int v_toCut, .int v_toLeave, .ref h_costAt, .ref h_places, .ref h_isCut, .ref h_written, .int v_writtenMany])), (h_a, .inl (cJ, 499, .inr (.inl v_a))), (h_worthFrom, .inl (cI, 33, .inl v_worthFrom_10)), (h_cutsFrom, .inl (cI, 33, .inl v_cutsFrom_11)), (h_endFrom, .inl (cI, 33, .inl v_endFrom_12)), (h_changes, .inl (cI, 32, .inl v_changes_13)), (h_waysFrom, .inl (cJ, 33, .inr (.inl v_waysFrom_14))), (h_costAt, .inl (cI, 160, .inl e_28)), (h_places, .inl (cI, 5, .inl v_places_16)), (h_isCut, .inl (cZ, 32, .inl v_isCut_17))] → ∀ (N : Nat) (l2_9 : Int32) (v_costAt_15 : Nat → Int32), wh (fun k q => S_X11_laysPlaces_17 l1_8 v_a v_worthFrom_10 v_cutsFrom_11 v_endFrom_12 v_changes_13 v_waysFrom_14 v_places_16 v_isCut_17 k q.1 q.2) N (l2_9, v_costAt_15) = some e_28 → Gx p l e (rmD 7) s m args below meth c D A 5 Q 0 0 17 [(0, .ref h_t_), (1, .int l1_8), (2, .int l2_9)] [] [(h_t_, .inr (11, [.ref h_a, .ref h_fresh, .ref h_kept, .int v_keptMany, .int v_thrown, .ref h_buffer, .int v_buffered, .int v_size, .int v_at, .int v_behind, .int v_kind, .int v_wrong, .int v_wrongAt, .int v_errorAt, .long v_number, .ref h_worthFrom, .ref h_cutsFrom, .ref h_endFrom, .ref h_changes, .ref h_waysFrom, .int v_toCut, .int v_toLeave, .ref h_costAt, .ref h_places, .ref h_isCut, .ref h_written, .int v_writtenMany])), (h_a, .inl (cJ, 499, .inr (.inl v_a))), (h_worthFrom, .inl (cI, 33, .inl v_worthFrom_10)), (h_cutsFrom, .inl (cI, 33, .inl v_cutsFrom_11)), (h_endFrom, .inl (cI, 33, .inl v_endFrom_12)), (h_changes, .inl (cI, 32, .inl v_changes_13)), (h_waysFrom, .inl (cJ, 33, .inr (.inl v_waysFrom_14))), (h_costAt, .inl (cI, 160, .inl v_costAt_15)), (h_places, .inl (cI, 5, .inl v_places_16)), (h_isCut, .inl (cZ, 32, .inl v_isCut_17))] := by
    intro l1_8 v_worthFrom_10 v_cutsFrom_11 v_endFrom_12 v_changes_13 v_waysFrom_14 v_places_16 v_isCut_17 e_28 hx0 N
    induction N with
    | zero => intro l2_9 v_costAt_15 hw; exact absurd hw (wh_0 _ _ _)
    | succ N ih =>
      intro l2_9 v_costAt_15 hw
      have hF : S_X11_laysPlaces_17 l1_8 v_a v_worthFrom_10 v_cutsFrom_11 v_endFrom_12 v_changes_13 v_waysFrom_14 v_places_16 v_isCut_17 (wh (fun k q => S_X11_laysPlaces_17 l1_8 v_a v_worthFrom_10 v_cutsFrom_11 v_endFrom_12 v_changes_13 v_waysFrom_14 v_places_16 v_isCut_17 k q.1 q.2) N) l2_9 v_costAt_15 = some e_28 := hw
      unfold S_X11_laysPlaces_17 at hF
      refine gq_iload_n hC 2 dX11_laysPlaces_17 rfl rfl ?_
      refine gq_if_lt hC 62 dX11_laysPlaces_18 (by decide) (fun hc_27 => ?_) (fun hc_27 => ?_)
      · have hF := (if_pos hc_27).symm.trans hF
        refine gq_sub [(0, .ref h_t_), (1, .int l1_8)] [0, 1] rfl ?_
        cases hF
        exact hx0
      · have hF := (if_neg hc_27).symm.trans hF
        refine gq_iconst hC (0 : Int32) dX11_laysPlaces_21 (by decide) ?_
        refine gq_istore_n hC [(3, .int (0 : Int32)), (0, .ref h_t_), (1, .int l1_8), (2, .int l2_9)] dX11_laysPlaces_22 rfl (by decide) rfl ?_
        have lp23 : ∀ (l2_18 : Int32), ∀ (e_25 : (Nat → Int32)), Gx p l e (rmD 7) s m args below meth c D A 5 Q 0 0 56 [(0, .ref h_t_), (1, .int l1_8), (2, .int l2_18)] [] [(h_t_, .inr (11, [.ref h_a, .ref h_fresh, .ref h_kept, .int v_keptMany, .int v_thrown, .ref h_buffer, .int v_buffered, .int v_size, .int v_at, .int v_behind, .int v_kind, .int v_wrong, .int v_wrongAt, .int v_errorAt, .long v_number, .ref h_worthFrom, .ref h_cutsFrom, .ref h_endFrom, .ref h_changes, .ref h_waysFrom, .int v_toCut, .int v_toLeave, .ref h_costAt, .ref h_places, .ref h_isCut, .ref h_written, .int v_writtenMany])), (h_a, .inl (cJ, 499, .inr (.inl v_a))), (h_worthFrom, .inl (cI, 33, .inl v_worthFrom_10)), (h_cutsFrom, .inl (cI, 33, .inl v_cutsFrom_11)), (h_endFrom, .inl (cI, 33, .inl v_endFrom_12)), (h_changes, .inl (cI, 32, .inl v_changes_13)), (h_waysFrom, .inl (cJ, 33, .inr (.inl v_waysFrom_14))), (h_costAt, .inl (cI, 160, .inl e_25)), (h_places, .inl (cI, 5, .inl v_places_16)), (h_isCut, .inl (cZ, 32, .inl v_isCut_17))] → ∀ (N : Nat) (l3_19 : Int32) (v_costAt_20 : Nat → Int32), wh (fun k q => S_X11_laysPlaces_23 l1_8 l2_18 v_a v_worthFrom_10 v_cutsFrom_11 v_endFrom_12 v_changes_13 v_waysFrom_14 v_places_16 v_isCut_17 k q.1 q.2) N (l3_19, v_costAt_20) = some e_25 → Gx p l e (rmD 7) s m args below meth c D A 5 Q 0 0 23 [(0, .ref h_t_), (1, .int l1_8), (2, .int l2_18), (3, .int l3_19)] [] [(h_t_, .inr (11, [.ref h_a, .ref h_fresh, .ref h_kept, .int v_keptMany, .int v_thrown, .ref h_buffer, .int v_buffered, .int v_size, .int v_at, .int v_behind, .int v_kind, .int v_wrong, .int v_wrongAt, .int v_errorAt, .long v_number, .ref h_worthFrom, .ref h_cutsFrom, .ref h_endFrom, .ref h_changes, .ref h_waysFrom, .int v_toCut, .int v_toLeave, .ref h_costAt, .ref h_places, .ref h_isCut, .ref h_written, .int v_writtenMany])), (h_a, .inl (cJ, 499, .inr (.inl v_a))), (h_worthFrom, .inl (cI, 33, .inl v_worthFrom_10)), (h_cutsFrom, .inl (cI, 33, .inl v_cutsFrom_11)), (h_endFrom, .inl (cI, 33, .inl v_endFrom_12)), (h_changes, .inl (cI, 32, .inl v_changes_13)), (h_waysFrom, .inl (cJ, 33, .inr (.inl v_waysFrom_14))), (h_costAt, .inl (cI, 160, .inl v_costAt_20)), (h_places, .inl (cI, 5, .inl v_places_16)), (h_isCut, .inl (cZ, 32, .inl v_isCut_17))] := by
          intro l2_18 e_25 hx0 N
          induction N with
          | zero => intro l3_19 v_costAt_20 hw; exact absurd hw (wh_0 _ _ _)
          | succ N ih =>
            intro l3_19 v_costAt_20 hw
            have hF : S_X11_laysPlaces_23 l1_8 l2_18 v_a v_worthFrom_10 v_cutsFrom_11 v_endFrom_12 v_changes_13 v_waysFrom_14 v_places_16 v_isCut_17 (wh (fun k q => S_X11_laysPlaces_23 l1_8 l2_18 v_a v_worthFrom_10 v_cutsFrom_11 v_endFrom_12 v_changes_13 v_waysFrom_14 v_places_16 v_isCut_17 k q.1 q.2) N) l3_19 v_costAt_20 = some e_25 := hw
            unfold S_X11_laysPlaces_23 at hF
            refine gq_iload_n hC 3 dX11_laysPlaces_23 rfl rfl ?_
            refine gq_aload_n hC 0 dX11_laysPlaces_24 rfl rfl ?_
            obtain ⟨r_21, hc_, hF⟩ := ob1_e hF
            refine gq_callVi hC [0, 1] [(h_t_, .inr (11, [.ref h_a, .ref h_fresh, .ref h_kept, .int v_keptMany, .int v_thrown, .ref h_buffer, .int v_buffered, .int v_size, .int v_at, .int v_behind, .int v_kind, .int v_wrong, .int v_wrongAt, .int v_errorAt, .long v_number, .ref h_worthFrom, .ref h_cutsFrom, .ref h_endFrom, .ref h_changes, .ref h_waysFrom, .int v_toCut, .int v_toLeave, .ref h_costAt, .ref h_places, .ref h_isCut, .ref h_written, .int v_writtenMany])), (h_a, .inl (cJ, 499, .inr (.inl v_a))), (h_worthFrom, .inl (cI, 33, .inl v_worthFrom_10)), (h_cutsFrom, .inl (cI, 33, .inl v_cutsFrom_11)), (h_endFrom, .inl (cI, 33, .inl v_endFrom_12)), (h_changes, .inl (cI, 32, .inl v_changes_13)), (h_waysFrom, .inl (cJ, 33, .inr (.inl v_waysFrom_14))), (h_costAt, .inl (cI, 160, .inl v_costAt_20)), (h_places, .inl (cI, 5, .inl v_places_16)), (h_isCut, .inl (cZ, 32, .inl v_isCut_17))] [] [.int l3_19] (k_X11_many l D cI cJ cZ cO z h_t_ h_a h_fresh h_kept h_buffer h_worthFrom h_cutsFrom h_endFrom h_changes h_waysFrom h_costAt h_places h_isCut h_written v_keptMany v_thrown v_buffered v_size v_at v_behind v_kind v_wrong v_wrongAt v_errorAt v_number v_toCut v_toLeave v_writtenMany v_a r_21 hc_) gX11_laysPlaces_X11_many rfl ⟨rfl, rfl⟩ hy_X11_many ⟨Nat.le_of_ble_eq_true rfl, Nat.le_of_ble_eq_true rfl⟩ rfl rfl rfl (q0 := 0) rfl rfl rfl (Nat.le_of_ble_eq_true rfl) rfl dX11_laysPlaces_25 rfl rfl ?_
            refine gq_iconst hC (1 : Int32) dX11_laysPlaces_28 (by decide) ?_
            refine gq_isub hC dX11_laysPlaces_29 ?_
            refine gq_icmp_ge hC 56 dX11_laysPlaces_30 (by decide) (fun hc_24 => ?_) (fun hc_24 => ?_)
            · have hF := (if_pos hc_24).symm.trans hF
              refine gq_sub [(0, .ref h_t_), (1, .int l1_8), (2, .int l2_18)] [0, 1, 2] rfl ?_
              cases hF
              exact hx0
            · have hF := (if_neg hc_24).symm.trans hF
              refine gq_aload_n hC 0 dX11_laysPlaces_33 rfl rfl ?_
              refine gq_get hC (kf := 22) 0 hin_X11 rfl rfl (by decide) hw_48 rfl dX11_laysPlaces_34 ?_
              refine gq_bipush hC (32 : Int32) dX11_laysPlaces_37 (by decide) ?_
              refine gq_iload_n hC 2 dX11_laysPlaces_39 rfl rfl ?_
              refine gq_imul hC dX11_laysPlaces_40 ?_
              refine gq_iload_n hC 3 dX11_laysPlaces_41 rfl rfl ?_
              refine gq_iadd hC dX11_laysPlaces_42 ?_
              refine gq_aload_n hC 0 dX11_laysPlaces_43 rfl rfl ?_
              refine gq_iload_n hC 2 dX11_laysPlaces_44 rfl rfl ?_
              refine gq_iload_n hC 3 dX11_laysPlaces_45 rfl rfl ?_
              obtain ⟨r_22, hc_, hF⟩ := ob1_e hF
              refine gq_callVi hC [0, 1, 7, 9] [(h_t_, .inr (11, [.ref h_a, .ref h_fresh, .ref h_kept, .int v_keptMany, .int v_thrown, .ref h_buffer, .int v_buffered, .int v_size, .int v_at, .int v_behind, .int v_kind, .int v_wrong, .int v_wrongAt, .int v_errorAt, .long v_number, .ref h_worthFrom, .ref h_cutsFrom, .ref h_endFrom, .ref h_changes, .ref h_waysFrom, .int v_toCut, .int v_toLeave, .ref h_costAt, .ref h_places, .ref h_isCut, .ref h_written, .int v_writtenMany])), (h_a, .inl (cJ, 499, .inr (.inl v_a))), (h_worthFrom, .inl (cI, 33, .inl v_worthFrom_10)), (h_cutsFrom, .inl (cI, 33, .inl v_cutsFrom_11)), (h_endFrom, .inl (cI, 33, .inl v_endFrom_12)), (h_changes, .inl (cI, 32, .inl v_changes_13)), (h_waysFrom, .inl (cJ, 33, .inr (.inl v_waysFrom_14))), (h_costAt, .inl (cI, 160, .inl v_costAt_20)), (h_places, .inl (cI, 5, .inl v_places_16)), (h_isCut, .inl (cZ, 32, .inl v_isCut_17))] [.int l2_18, .int l3_19] [.int (((32 : Int32) * l2_18) + l3_19), .ref h_costAt] (k_X11_costOf l D cI cJ cZ cO z h_t_ h_a h_costAt h_isCut h_fresh h_kept h_buffer h_worthFrom h_cutsFrom h_endFrom h_changes h_waysFrom h_places h_written l2_18 l3_19 v_keptMany v_thrown v_buffered v_size v_at v_behind v_kind v_wrong v_wrongAt v_errorAt v_number v_toCut v_toLeave v_writtenMany v_a v_costAt_20 v_isCut_17 r_22 hc_) gX11_laysPlaces_X11_costOf rfl ⟨rfl, rfl⟩ hy_X11_costOf ⟨Nat.le_of_ble_eq_true rfl, Nat.le_of_ble_eq_true rfl⟩ rfl rfl rfl (q0 := 0) rfl rfl rfl (Nat.le_of_ble_eq_true rfl) rfl dX11_laysPlaces_46 rfl rfl ?_
              obtain ⟨hi_23, hF⟩ := gi_e hF
              refine gq_iast hC 7 0 [(h_t_, .inr (11, [.ref h_a, .ref h_fresh, .ref h_kept, .int v_keptMany, .int v_thrown, .ref h_buffer, .int v_buffered, .int v_size, .int v_at, .int v_behind, .int v_kind, .int v_wrong, .int v_wrongAt, .int v_errorAt, .long v_number, .ref h_worthFrom, .ref h_cutsFrom, .ref h_endFrom, .ref h_changes, .ref h_waysFrom, .int v_toCut, .int v_toLeave, .ref h_costAt, .ref h_places, .ref h_isCut, .ref h_written, .int v_writtenMany])), (h_a, .inl (cJ, 499, .inr (.inl v_a))), (h_worthFrom, .inl (cI, 33, .inl v_worthFrom_10)), (h_cutsFrom, .inl (cI, 33, .inl v_cutsFrom_11)), (h_endFrom, .inl (cI, 33, .inl v_endFrom_12)), (h_changes, .inl (cI, 32, .inl v_changes_13)), (h_waysFrom, .inl (cJ, 33, .inr (.inl v_waysFrom_14))), (h_costAt, .inl (cI, 160, .inl (upd v_costAt_20 (((32 : Int32) * l2_18) + l3_19).toNatClampNeg r_22))), (h_places, .inl (cI, 5, .inl v_places_16)), (h_isCut, .inl (cZ, 32, .inl v_isCut_17))] rfl rfl hi_23 dX11_laysPlaces_49 rfl ?_
              refine gq_iinc hC 3 (l3_19 + (1 : Int32)) [(3, .int (l3_19 + (1 : Int32))), (0, .ref h_t_), (1, .int l1_8), (2, .int l2_18)] dX11_laysPlaces_50 rfl rfl (by decide) rfl ?_
              refine gq_goto hC 23 dX11_laysPlaces_53 (by decide) ?_
              refine gq_sub [(0, .ref h_t_), (1, .int l1_8), (2, .int l2_18), (3, .int (l3_19 + (1 : Int32)))] [1, 2, 3, 0] rfl ?_
              exact ih (l3_19 + (1 : Int32)) (upd v_costAt_20 (((32 : Int32) * l2_18) + l3_19).toNatClampNeg r_22) hF
        refine gq_sub [(0, .ref h_t_), (1, .int l1_8), (2, .int l2_9), (3, .int (0 : Int32))] [1, 2, 3, 0] rfl ?_
        obtain ⟨e_26, hw_, hF⟩ := ob1_e hF
        refine lp23 l2_9 e_26 ?_ wF (0 : Int32) v_costAt_15 hw_
        refine gq_iinc hC 2 (l2_9 + (-1 : Int32)) [(2, .int (l2_9 + (-1 : Int32))), (0, .ref h_t_), (1, .int l1_8)] dX11_laysPlaces_56 rfl rfl (by decide) rfl ?_
        refine gq_goto hC 17 dX11_laysPlaces_59 (by decide) ?_
        refine gq_sub [(0, .ref h_t_), (1, .int l1_8), (2, .int (l2_9 + (-1 : Int32)))] [1, 2, 0] rfl ?_
        exact ih (l2_9 + (-1 : Int32)) e_26 hF
  refine gq_sub [(0, .ref h_t_), (1, .int ((v_a (8 : Int32).toNatClampNeg).toInt32)), (2, .int (((v_a (8 : Int32).toNatClampNeg).toInt32) - (1 : Int32)))] [2, 1, 0] rfl ?_
  obtain ⟨e_29, hw_, hF⟩ := ob1_e hF
  refine lp17 ((v_a (8 : Int32).toNatClampNeg).toInt32) v_worthFrom_1 v_cutsFrom_2 v_endFrom_3 v_changes_4 v_waysFrom_5 v_places v_isCut_6 e_29 ?_ wF (((v_a (8 : Int32).toNatClampNeg).toInt32) - (1 : Int32)) v_costAt hw_
  refine gq_iconst hC (0 : Int32) dX11_laysPlaces_62 (by decide) ?_
  refine gq_istore_n hC [(2, .int (0 : Int32)), (0, .ref h_t_), (1, .int ((v_a (8 : Int32).toNatClampNeg).toInt32))] dX11_laysPlaces_63 rfl (by decide) rfl ?_
  refine gq_iconst hC (0 : Int32) dX11_laysPlaces_64 (by decide) ?_
  refine gq_istore_n hC [(3, .int (0 : Int32)), (2, .int (0 : Int32)), (0, .ref h_t_), (1, .int ((v_a (8 : Int32).toNatClampNeg).toInt32))] dX11_laysPlaces_65 rfl (by decide) rfl ?_
  refine gq_iconst hC (0 : Int32) dX11_laysPlaces_66 (by decide) ?_
  refine gq_istore hC [(4, .int (0 : Int32)), (3, .int (0 : Int32)), (2, .int (0 : Int32)), (0, .ref h_t_), (1, .int ((v_a (8 : Int32).toNatClampNeg).toInt32))] dX11_laysPlaces_67 (by decide) rfl ?_
  have lp69 : ∀ (l1_30 : Int32) (v_worthFrom_34 : Nat → Int32) (v_cutsFrom_35 : Nat → Int32) (v_endFrom_36 : Nat → Int32) (v_changes_37 : Nat → Int32) (v_waysFrom_38 : Nat → Int64) (v_costAt_39 : Nat → Int32) (v_isCut_41 : Nat → Int32), ∀ (out_ : ((Nat → Int32)) ⊕ ((Nat → Int32))), (∀ (e_50 : (Nat → Int32)), out_ = .inl e_50 → Gx p l e (rmD 7) s m args below meth c D A 5 Q 0 0 101 [] [] [(h_t_, .inr (11, [.ref h_a, .ref h_fresh, .ref h_kept, .int v_keptMany, .int v_thrown, .ref h_buffer, .int v_buffered, .int v_size, .int v_at, .int v_behind, .int v_kind, .int v_wrong, .int v_wrongAt, .int v_errorAt, .long v_number, .ref h_worthFrom, .ref h_cutsFrom, .ref h_endFrom, .ref h_changes, .ref h_waysFrom, .int v_toCut, .int v_toLeave, .ref h_costAt, .ref h_places, .ref h_isCut, .ref h_written, .int v_writtenMany])), (h_a, .inl (cJ, 499, .inr (.inl v_a))), (h_worthFrom, .inl (cI, 33, .inl v_worthFrom_34)), (h_cutsFrom, .inl (cI, 33, .inl v_cutsFrom_35)), (h_endFrom, .inl (cI, 33, .inl v_endFrom_36)), (h_changes, .inl (cI, 32, .inl v_changes_37)), (h_waysFrom, .inl (cJ, 33, .inr (.inl v_waysFrom_38))), (h_costAt, .inl (cI, 160, .inl v_costAt_39)), (h_places, .inl (cI, 5, .inl e_50)), (h_isCut, .inl (cZ, 32, .inl v_isCut_41))]) → (∀ (e_51 : (Nat → Int32)), out_ = .inr e_51 → Gx p l e (rmD 7) s m args below meth c D A 5 Q 0 0 133 [(0, .ref h_t_), (1, .int l1_30)] [] [(h_t_, .inr (11, [.ref h_a, .ref h_fresh, .ref h_kept, .int v_keptMany, .int v_thrown, .ref h_buffer, .int v_buffered, .int v_size, .int v_at, .int v_behind, .int v_kind, .int v_wrong, .int v_wrongAt, .int v_errorAt, .long v_number, .ref h_worthFrom, .ref h_cutsFrom, .ref h_endFrom, .ref h_changes, .ref h_waysFrom, .int v_toCut, .int v_toLeave, .ref h_costAt, .ref h_places, .ref h_isCut, .ref h_written, .int v_writtenMany])), (h_a, .inl (cJ, 499, .inr (.inl v_a))), (h_worthFrom, .inl (cI, 33, .inl v_worthFrom_34)), (h_cutsFrom, .inl (cI, 33, .inl v_cutsFrom_35)), (h_endFrom, .inl (cI, 33, .inl v_endFrom_36)), (h_changes, .inl (cI, 32, .inl v_changes_37)), (h_waysFrom, .inl (cJ, 33, .inr (.inl v_waysFrom_38))), (h_costAt, .inl (cI, 160, .inl v_costAt_39)), (h_places, .inl (cI, 5, .inl e_51)), (h_isCut, .inl (cZ, 32, .inl v_isCut_41))]) → ∀ (N : Nat) (l2_31 : Int32) (l3_32 : Int32) (l4_33 : Int32) (v_places_40 : Nat → Int32), wh (fun k q => S_X11_laysPlaces_69 l1_30 v_a v_worthFrom_34 v_cutsFrom_35 v_endFrom_36 v_changes_37 v_waysFrom_38 v_costAt_39 v_isCut_41 k q.1 q.2.1 q.2.2.1 q.2.2.2) N (l2_31, l3_32, l4_33, v_places_40) = some out_ → Gx p l e (rmD 7) s m args below meth c D A 5 Q 0 0 69 [(0, .ref h_t_), (1, .int l1_30), (2, .int l2_31), (3, .int l3_32), (4, .int l4_33)] [] [(h_t_, .inr (11, [.ref h_a, .ref h_fresh, .ref h_kept, .int v_keptMany, .int v_thrown, .ref h_buffer, .int v_buffered, .int v_size, .int v_at, .int v_behind, .int v_kind, .int v_wrong, .int v_wrongAt, .int v_errorAt, .long v_number, .ref h_worthFrom, .ref h_cutsFrom, .ref h_endFrom, .ref h_changes, .ref h_waysFrom, .int v_toCut, .int v_toLeave, .ref h_costAt, .ref h_places, .ref h_isCut, .ref h_written, .int v_writtenMany])), (h_a, .inl (cJ, 499, .inr (.inl v_a))), (h_worthFrom, .inl (cI, 33, .inl v_worthFrom_34)), (h_cutsFrom, .inl (cI, 33, .inl v_cutsFrom_35)), (h_endFrom, .inl (cI, 33, .inl v_endFrom_36)), (h_changes, .inl (cI, 32, .inl v_changes_37)), (h_waysFrom, .inl (cJ, 33, .inr (.inl v_waysFrom_38))), (h_costAt, .inl (cI, 160, .inl v_costAt_39)), (h_places, .inl (cI, 5, .inl v_places_40)), (h_isCut, .inl (cZ, 32, .inl v_isCut_41))] := by
    intro l1_30 v_worthFrom_34 v_cutsFrom_35 v_endFrom_36 v_changes_37 v_waysFrom_38 v_costAt_39 v_isCut_41 out_ hx0 hx1 N
    induction N with
    | zero => intro l2_31 l3_32 l4_33 v_places_40 hw; exact absurd hw (wh_0 _ _ _)
    | succ N ih =>
      intro l2_31 l3_32 l4_33 v_places_40 hw
      have hF : S_X11_laysPlaces_69 l1_30 v_a v_worthFrom_34 v_cutsFrom_35 v_endFrom_36 v_changes_37 v_waysFrom_38 v_costAt_39 v_isCut_41 (wh (fun k q => S_X11_laysPlaces_69 l1_30 v_a v_worthFrom_34 v_cutsFrom_35 v_endFrom_36 v_changes_37 v_waysFrom_38 v_costAt_39 v_isCut_41 k q.1 q.2.1 q.2.2.1 q.2.2.2) N) l2_31 l3_32 l4_33 v_places_40 = some out_ := hw
      unfold S_X11_laysPlaces_69 at hF
      refine gq_iload hC 4 dX11_laysPlaces_69 rfl ?_
      refine gq_iload_n hC 1 dX11_laysPlaces_71 rfl rfl ?_
      refine gq_icmp_ge hC 133 dX11_laysPlaces_72 (by decide) (fun hc_49 => ?_) (fun hc_49 => ?_)
      · have hF := (if_pos hc_49).symm.trans hF
        refine gq_sub [(0, .ref h_t_), (1, .int l1_30)] [0, 1] rfl ?_
        exact hx1 _ (Option.some.inj hF).symm
      · have hF := (if_neg hc_49).symm.trans hF
        refine gq_aload_n hC 0 dX11_laysPlaces_75 rfl rfl ?_
        refine gq_get hC (kf := 23) 0 hin_X11 rfl rfl (by decide) hw_51 rfl dX11_laysPlaces_76 ?_
        refine gq_iload hC 4 dX11_laysPlaces_79 rfl ?_
        refine gq_aload_n hC 0 dX11_laysPlaces_81 rfl rfl ?_
        refine gq_iload hC 4 dX11_laysPlaces_82 rfl ?_
        refine gq_iload_n hC 2 dX11_laysPlaces_84 rfl rfl ?_
        refine gq_iload_n hC 3 dX11_laysPlaces_85 rfl rfl ?_
        obtain ⟨r_42, hc_, hF⟩ := ob1_e hF
        refine gq_callVi hC [0, 1, 7] [(h_t_, .inr (11, [.ref h_a, .ref h_fresh, .ref h_kept, .int v_keptMany, .int v_thrown, .ref h_buffer, .int v_buffered, .int v_size, .int v_at, .int v_behind, .int v_kind, .int v_wrong, .int v_wrongAt, .int v_errorAt, .long v_number, .ref h_worthFrom, .ref h_cutsFrom, .ref h_endFrom, .ref h_changes, .ref h_waysFrom, .int v_toCut, .int v_toLeave, .ref h_costAt, .ref h_places, .ref h_isCut, .ref h_written, .int v_writtenMany])), (h_a, .inl (cJ, 499, .inr (.inl v_a))), (h_worthFrom, .inl (cI, 33, .inl v_worthFrom_34)), (h_cutsFrom, .inl (cI, 33, .inl v_cutsFrom_35)), (h_endFrom, .inl (cI, 33, .inl v_endFrom_36)), (h_changes, .inl (cI, 32, .inl v_changes_37)), (h_waysFrom, .inl (cJ, 33, .inr (.inl v_waysFrom_38))), (h_costAt, .inl (cI, 160, .inl v_costAt_39)), (h_places, .inl (cI, 5, .inl v_places_40)), (h_isCut, .inl (cZ, 32, .inl v_isCut_41))] [.int l4_33, .int l2_31, .int l3_32] [.int l4_33, .ref h_places] (k_X11_bestFrom l D cI cJ cZ cO z h_t_ h_a h_costAt h_fresh h_kept h_buffer h_worthFrom h_cutsFrom h_endFrom h_changes h_waysFrom h_places h_isCut h_written l4_33 l2_31 l3_32 v_keptMany v_thrown v_buffered v_size v_at v_behind v_kind v_wrong v_wrongAt v_errorAt v_number v_toCut v_toLeave v_writtenMany v_a v_costAt_39 r_42 hc_) gX11_laysPlaces_X11_bestFrom rfl ⟨rfl, rfl⟩ hy_X11_bestFrom ⟨Nat.le_of_ble_eq_true rfl, Nat.le_of_ble_eq_true rfl⟩ rfl rfl rfl (q0 := 0) rfl rfl rfl (Nat.le_of_ble_eq_true rfl) rfl dX11_laysPlaces_86 rfl rfl ?_
        obtain ⟨hi_43, hF⟩ := gi_e hF
        refine gq_iast hC 8 0 [(h_t_, .inr (11, [.ref h_a, .ref h_fresh, .ref h_kept, .int v_keptMany, .int v_thrown, .ref h_buffer, .int v_buffered, .int v_size, .int v_at, .int v_behind, .int v_kind, .int v_wrong, .int v_wrongAt, .int v_errorAt, .long v_number, .ref h_worthFrom, .ref h_cutsFrom, .ref h_endFrom, .ref h_changes, .ref h_waysFrom, .int v_toCut, .int v_toLeave, .ref h_costAt, .ref h_places, .ref h_isCut, .ref h_written, .int v_writtenMany])), (h_a, .inl (cJ, 499, .inr (.inl v_a))), (h_worthFrom, .inl (cI, 33, .inl v_worthFrom_34)), (h_cutsFrom, .inl (cI, 33, .inl v_cutsFrom_35)), (h_endFrom, .inl (cI, 33, .inl v_endFrom_36)), (h_changes, .inl (cI, 32, .inl v_changes_37)), (h_waysFrom, .inl (cJ, 33, .inr (.inl v_waysFrom_38))), (h_costAt, .inl (cI, 160, .inl v_costAt_39)), (h_places, .inl (cI, 5, .inl (upd v_places_40 l4_33.toNatClampNeg r_42))), (h_isCut, .inl (cZ, 32, .inl v_isCut_41))] rfl rfl hi_43 dX11_laysPlaces_89 rfl ?_
        refine gq_aload_n hC 0 dX11_laysPlaces_90 rfl rfl ?_
        refine gq_get hC (kf := 23) 0 hin_X11 rfl rfl (by decide) hw_51 rfl dX11_laysPlaces_91 ?_
        refine gq_iload hC 4 dX11_laysPlaces_94 rfl ?_
        obtain ⟨hi_44, hF⟩ := gi_e hF
        refine gq_iald hC 8 0 rfl rfl hi_44 dX11_laysPlaces_96 ?_
        refine gq_iconst hC (-1 : Int32) dX11_laysPlaces_97 (by decide) ?_
        refine gq_icmp_ne hC 103 dX11_laysPlaces_98 (by decide) (fun hc_48 => ?_) (fun hc_48 => ?_)
        · have hF := (if_neg hc_48).symm.trans hF
          refine gq_aload_n hC 0 dX11_laysPlaces_103 rfl rfl ?_
          refine gq_get hC (kf := 23) 0 hin_X11 rfl rfl (by decide) hw_51 rfl dX11_laysPlaces_104 ?_
          refine gq_iload hC 4 dX11_laysPlaces_107 rfl ?_
          obtain ⟨hi_45, hF⟩ := gi_e hF
          refine gq_iald hC 8 0 rfl rfl hi_45 dX11_laysPlaces_109 ?_
          refine gq_iconst hC (1 : Int32) dX11_laysPlaces_110 (by decide) ?_
          refine gq_iadd hC dX11_laysPlaces_111 ?_
          refine gq_istore_n hC [(2, .int (((upd v_places_40 l4_33.toNatClampNeg r_42) l4_33.toNatClampNeg) + (1 : Int32))), (0, .ref h_t_), (1, .int l1_30), (3, .int l3_32), (4, .int l4_33)] dX11_laysPlaces_112 rfl (by decide) rfl ?_
          refine gq_aload_n hC 1 dX11_laysPlaces_113 rfl rfl ?_
          refine gq_iload_n hC 0 dX11_laysPlaces_114 rfl rfl ?_
          obtain ⟨r_46, hc_, hF⟩ := ob1_e hF
          refine gq_callVi hC [0, 1] [(h_t_, .inr (11, [.ref h_a, .ref h_fresh, .ref h_kept, .int v_keptMany, .int v_thrown, .ref h_buffer, .int v_buffered, .int v_size, .int v_at, .int v_behind, .int v_kind, .int v_wrong, .int v_wrongAt, .int v_errorAt, .long v_number, .ref h_worthFrom, .ref h_cutsFrom, .ref h_endFrom, .ref h_changes, .ref h_waysFrom, .int v_toCut, .int v_toLeave, .ref h_costAt, .ref h_places, .ref h_isCut, .ref h_written, .int v_writtenMany])), (h_a, .inl (cJ, 499, .inr (.inl v_a))), (h_worthFrom, .inl (cI, 33, .inl v_worthFrom_34)), (h_cutsFrom, .inl (cI, 33, .inl v_cutsFrom_35)), (h_endFrom, .inl (cI, 33, .inl v_endFrom_36)), (h_changes, .inl (cI, 32, .inl v_changes_37)), (h_waysFrom, .inl (cJ, 33, .inr (.inl v_waysFrom_38))), (h_costAt, .inl (cI, 160, .inl v_costAt_39)), (h_places, .inl (cI, 5, .inl (upd v_places_40 l4_33.toNatClampNeg r_42))), (h_isCut, .inl (cZ, 32, .inl v_isCut_41))] [.int (((upd v_places_40 l4_33.toNatClampNeg r_42) l4_33.toNatClampNeg) + (1 : Int32))] [] (k_X11_spoken l D cI cJ cZ cO z h_t_ h_a h_fresh h_kept h_buffer h_worthFrom h_cutsFrom h_endFrom h_changes h_waysFrom h_costAt h_places h_isCut h_written (((upd v_places_40 l4_33.toNatClampNeg r_42) l4_33.toNatClampNeg) + (1 : Int32)) v_keptMany v_thrown v_buffered v_size v_at v_behind v_kind v_wrong v_wrongAt v_errorAt v_number v_toCut v_toLeave v_writtenMany v_a r_46 hc_) gX11_laysPlaces_X11_spoken rfl ⟨rfl, rfl⟩ hy_X11_spoken ⟨Nat.le_of_ble_eq_true rfl, Nat.le_of_ble_eq_true rfl⟩ rfl rfl rfl (q0 := 0) rfl rfl rfl (Nat.le_of_ble_eq_true rfl) rfl dX11_laysPlaces_115 rfl rfl ?_
          refine gq_aload_n hC 1 dX11_laysPlaces_118 rfl rfl ?_
          refine gq_get hC (kf := 0) 0 hin_X11 rfl rfl (by decide) hw_9 rfl dX11_laysPlaces_119 ?_
          refine gq_iconst hC (5 : Int32) dX11_laysPlaces_122 (by decide) ?_
          obtain ⟨hi_47, hF⟩ := gi_e hF
          refine gq_lald hC 1 1 rfl rfl hi_47 dX11_laysPlaces_123 ?_
          refine gq_l2i hC dX11_laysPlaces_124 ?_
          refine gq_iadd hC dX11_laysPlaces_125 ?_
          refine gq_istore_n hC [(3, .int (r_46 + ((v_a (5 : Int32).toNatClampNeg).toInt32))), (2, .int (((upd v_places_40 l4_33.toNatClampNeg r_42) l4_33.toNatClampNeg) + (1 : Int32))), (0, .ref h_t_), (1, .int l1_30), (4, .int l4_33)] dX11_laysPlaces_126 rfl (by decide) rfl ?_
          refine gq_iinc hC 4 (l4_33 + (1 : Int32)) [(4, .int (l4_33 + (1 : Int32))), (3, .int (r_46 + ((v_a (5 : Int32).toNatClampNeg).toInt32))), (2, .int (((upd v_places_40 l4_33.toNatClampNeg r_42) l4_33.toNatClampNeg) + (1 : Int32))), (0, .ref h_t_), (1, .int l1_30)] dX11_laysPlaces_127 rfl rfl (by decide) rfl ?_
          refine gq_goto hC 69 dX11_laysPlaces_130 (by decide) ?_
          refine gq_sub [(0, .ref h_t_), (1, .int l1_30), (2, .int (((upd v_places_40 l4_33.toNatClampNeg r_42) l4_33.toNatClampNeg) + (1 : Int32))), (3, .int (r_46 + ((v_a (5 : Int32).toNatClampNeg).toInt32))), (4, .int (l4_33 + (1 : Int32)))] [3, 4, 2, 1, 0] rfl ?_
          exact ih (((upd v_places_40 l4_33.toNatClampNeg r_42) l4_33.toNatClampNeg) + (1 : Int32)) (r_46 + ((v_a (5 : Int32).toNatClampNeg).toInt32)) (l4_33 + (1 : Int32)) (upd v_places_40 l4_33.toNatClampNeg r_42) hF
        · have hF := (if_pos hc_48).symm.trans hF
          refine gq_sub [] [] rfl ?_
          exact hx0 _ (Option.some.inj hF).symm
  refine gq_sub [(0, .ref h_t_), (1, .int ((v_a (8 : Int32).toNatClampNeg).toInt32)), (2, .int (0 : Int32)), (3, .int (0 : Int32)), (4, .int (0 : Int32))] [3, 4, 2, 1, 0] rfl ?_
  obtain ⟨o_, hw_, hF⟩ := ob1_e hF
  refine lp69 ((v_a (8 : Int32).toNatClampNeg).toInt32) v_worthFrom_1 v_cutsFrom_2 v_endFrom_3 v_changes_4 v_waysFrom_5 e_29 v_isCut_6 o_ ?_ ?_ wF (0 : Int32) (0 : Int32) (0 : Int32) v_places hw_
  · intro e_52 ho_53
    subst ho_53
    have hF : (some ((-1 : Int32), v_worthFrom_1, v_cutsFrom_2, v_endFrom_3, v_changes_4, v_waysFrom_5, e_29, e_52, v_isCut_6)) = some _ := hF
    refine gq_iconst hC (-1 : Int32) dX11_laysPlaces_101 (by decide) ?_
    cases hF
    rw [hQ]
    exact gq_iret hC rfl dX11_laysPlaces_102
  · intro e_54 ho_58
    subst ho_58
    have hF : (if ((v_a (8 : Int32).toNatClampNeg).toInt32) = 0 then (some ((0 : Int32), v_worthFrom_1, v_cutsFrom_2, v_endFrom_3, v_changes_4, v_waysFrom_5, e_29, e_54, v_isCut_6)) else (gi (0 : Int32) 5 (gi (e_54 (0 : Int32).toNatClampNeg) 160 (some ((e_29 (e_54 (0 : Int32).toNatClampNeg).toNatClampNeg), v_worthFrom_1, v_cutsFrom_2, v_endFrom_3, v_changes_4, v_waysFrom_5, e_29, e_54, v_isCut_6))))) = some _ := hF
    refine gq_iload_n hC 1 dX11_laysPlaces_133 rfl rfl ?_
    refine gq_if_ne hC 141 dX11_laysPlaces_134 (by decide) (fun hc_57 => ?_) (fun hc_57 => ?_)
    · have hF := (if_neg hc_57).symm.trans hF
      refine gq_aload_n hC 0 dX11_laysPlaces_141 rfl rfl ?_
      refine gq_get hC (kf := 22) 0 hin_X11 rfl rfl (by decide) hw_48 rfl dX11_laysPlaces_142 ?_
      refine gq_aload_n hC 0 dX11_laysPlaces_145 rfl rfl ?_
      refine gq_get hC (kf := 23) 0 hin_X11 rfl rfl (by decide) hw_51 rfl dX11_laysPlaces_146 ?_
      refine gq_iconst hC (0 : Int32) dX11_laysPlaces_149 (by decide) ?_
      obtain ⟨hi_55, hF⟩ := gi_e hF
      refine gq_iald hC 8 0 rfl rfl hi_55 dX11_laysPlaces_150 ?_
      obtain ⟨hi_56, hF⟩ := gi_e hF
      refine gq_iald hC 7 0 rfl rfl hi_56 dX11_laysPlaces_151 ?_
      cases hF
      rw [hQ]
      exact gq_iret hC rfl dX11_laysPlaces_152
    · have hF := (if_pos hc_57).symm.trans hF
      refine gq_iconst hC (0 : Int32) dX11_laysPlaces_137 (by decide) ?_
      refine gq_goto hC 152 dX11_laysPlaces_138 (by decide) ?_
      cases hF
      rw [hQ]
      exact gq_iret hC rfl dX11_laysPlaces_152
theorem hy_X11_realTime : yX11_realTime.cls = RX11 ∧ yX11_realTime.cls ≠ "java/lang/invoke/MethodHandle" ∧ yX11_realTime.cls ≠ "java/lang/invoke/VarHandle" ∧ (parseMethodDescriptor yX11_realTime.desc).map (fun d => d.parameters.length) = some 1 := by decide +kernel
set_option maxRecDepth 20000 in
set_option maxHeartbeats 4000000 in
theorem k_X11_realTime (l : Launch) (D : va_G) (cI cJ cZ cO : ClassId) (z : Nat → Nat)   (h_t_ : Nat) (h_a : Nat) (h_worthFrom : Nat) (h_cutsFrom : Nat) (h_endFrom : Nat) (h_changes : Nat) (h_waysFrom : Nat) (h_costAt : Nat) (h_places : Nat) (h_isCut : Nat) (h_fresh : Nat) (h_kept : Nat) (h_buffer : Nat) (h_written : Nat) (x1 : Int32) (v_keptMany : Int32) (v_thrown : Int32) (v_buffered : Int32) (v_size : Int32) (v_at : Int32) (v_behind : Int32) (v_kind : Int32) (v_wrong : Int32) (v_wrongAt : Int32) (v_errorAt : Int32) (v_number : Int64) (v_toCut : Int32) (v_toLeave : Int32) (v_writtenMany : Int32) (v_a : Nat → Int64) (v_worthFrom : Nat → Int32) (v_cutsFrom : Nat → Int32) (v_endFrom : Nat → Int32) (v_changes : Nat → Int32) (v_waysFrom : Nat → Int64) (v_costAt : Nat → Int32) (v_places : Nat → Int32) (v_isCut : Nat → Int32) (r_ : Int32) (w_worthFrom : Nat → Int32) (w_cutsFrom : Nat → Int32) (w_endFrom : Nat → Int32) (w_changes : Nat → Int32) (w_waysFrom : Nat → Int64) (w_costAt : Nat → Int32) (w_places : Nat → Int32) (w_isCut : Nat → Int32) (hF : F_X11_realTime x1 v_toCut v_toLeave v_a v_worthFrom v_cutsFrom v_endFrom v_changes v_waysFrom v_costAt v_places v_isCut = some (r_, w_worthFrom, w_cutsFrom, w_endFrom, w_changes, w_waysFrom, w_costAt, w_places, w_isCut)) : Mi l yX11_realTime wsX11_realTime (rmD 8) D (gq_ty cI cJ cZ cO) z [.ref h_t_, .int x1] [(h_t_, .inr (11, [.ref h_a, .ref h_fresh, .ref h_kept, .int v_keptMany, .int v_thrown, .ref h_buffer, .int v_buffered, .int v_size, .int v_at, .int v_behind, .int v_kind, .int v_wrong, .int v_wrongAt, .int v_errorAt, .long v_number, .ref h_worthFrom, .ref h_cutsFrom, .ref h_endFrom, .ref h_changes, .ref h_waysFrom, .int v_toCut, .int v_toLeave, .ref h_costAt, .ref h_places, .ref h_isCut, .ref h_written, .int v_writtenMany])), (h_a, .inl (cJ, 499, .inr (.inl v_a))), (h_worthFrom, .inl (cI, 33, .inl v_worthFrom)), (h_cutsFrom, .inl (cI, 33, .inl v_cutsFrom)), (h_endFrom, .inl (cI, 33, .inl v_endFrom)), (h_changes, .inl (cI, 32, .inl v_changes)), (h_waysFrom, .inl (cJ, 33, .inr (.inl v_waysFrom))), (h_costAt, .inl (cI, 160, .inl v_costAt)), (h_places, .inl (cI, 5, .inl v_places)), (h_isCut, .inl (cZ, 32, .inl v_isCut))] r_ [(h_t_, .inr (11, [.ref h_a, .ref h_fresh, .ref h_kept, .int v_keptMany, .int v_thrown, .ref h_buffer, .int v_buffered, .int v_size, .int v_at, .int v_behind, .int v_kind, .int v_wrong, .int v_wrongAt, .int v_errorAt, .long v_number, .ref h_worthFrom, .ref h_cutsFrom, .ref h_endFrom, .ref h_changes, .ref h_waysFrom, .int v_toCut, .int v_toLeave, .ref h_costAt, .ref h_places, .ref h_isCut, .ref h_written, .int v_writtenMany])), (h_a, .inl (cJ, 499, .inr (.inl v_a))), (h_worthFrom, .inl (cI, 33, .inl w_worthFrom)), (h_cutsFrom, .inl (cI, 33, .inl w_cutsFrom)), (h_endFrom, .inl (cI, 33, .inl w_endFrom)), (h_changes, .inl (cI, 32, .inl w_changes)), (h_waysFrom, .inl (cJ, 33, .inr (.inl w_waysFrom))), (h_costAt, .inl (cI, 160, .inl w_costAt)), (h_places, .inl (cI, 5, .inl w_places)), (h_isCut, .inl (cZ, 32, .inl w_isCut))] 0 0 := by
  refine Mi.of (cc := cX11_realTime) (maxL := 4) (by decide) rfl (Nat.le_of_ble_eq_true rfl) ⟨Nat.le_refl 0, Nat.le_refl 0⟩ ?_
  intro p e s m args below meth c A hC ha
  have hin_X11 : ∀ w ∈ wsX110, w ∈ wsX11_realTime := by decide +kernel
  have hw_9 : Cond.fieldLink RX11 9 (TX11 0).1 (TX11 0).2.1 (TX11 0).2.2.1 ∈ wsX11_realTime := by decide +kernel
  have hw_51 : Cond.fieldLink RX11 51 (TX11 23).1 (TX11 23).2.1 (TX11 23).2.2.1 ∈ wsX11_realTime := by decide +kernel
  obtain ⟨Q, hQ⟩ : ∃ Q, Q = gq_Qi below D A args s r_ [(h_t_, .inr (11, [.ref h_a, .ref h_fresh, .ref h_kept, .int v_keptMany, .int v_thrown, .ref h_buffer, .int v_buffered, .int v_size, .int v_at, .int v_behind, .int v_kind, .int v_wrong, .int v_wrongAt, .int v_errorAt, .long v_number, .ref h_worthFrom, .ref h_cutsFrom, .ref h_endFrom, .ref h_changes, .ref h_waysFrom, .int v_toCut, .int v_toLeave, .ref h_costAt, .ref h_places, .ref h_isCut, .ref h_written, .int v_writtenMany])), (h_a, .inl (cJ, 499, .inr (.inl v_a))), (h_worthFrom, .inl (cI, 33, .inl w_worthFrom)), (h_cutsFrom, .inl (cI, 33, .inl w_cutsFrom)), (h_endFrom, .inl (cI, 33, .inl w_endFrom)), (h_changes, .inl (cI, 32, .inl w_changes)), (h_waysFrom, .inl (cJ, 33, .inr (.inl w_waysFrom))), (h_costAt, .inl (cI, 160, .inl w_costAt)), (h_places, .inl (cI, 5, .inl w_places)), (h_isCut, .inl (cZ, 32, .inl w_isCut))] 0 0 := ⟨_, rfl⟩
  rw [← hQ]
  refine gq_loc [(0, .ref h_t_), (1, .int x1)] rfl ?_
  unfold F_X11_realTime at hF
  refine gq_aload_n hC 0 dX11_realTime_0 rfl rfl ?_
  refine gq_iload_n hC 1 dX11_realTime_1 rfl rfl ?_
  obtain ⟨r_1, hc_, hF⟩ := ob1_e hF
  refine gq_callVi hC [0, 1] [(h_t_, .inr (11, [.ref h_a, .ref h_fresh, .ref h_kept, .int v_keptMany, .int v_thrown, .ref h_buffer, .int v_buffered, .int v_size, .int v_at, .int v_behind, .int v_kind, .int v_wrong, .int v_wrongAt, .int v_errorAt, .long v_number, .ref h_worthFrom, .ref h_cutsFrom, .ref h_endFrom, .ref h_changes, .ref h_waysFrom, .int v_toCut, .int v_toLeave, .ref h_costAt, .ref h_places, .ref h_isCut, .ref h_written, .int v_writtenMany])), (h_a, .inl (cJ, 499, .inr (.inl v_a))), (h_worthFrom, .inl (cI, 33, .inl v_worthFrom)), (h_cutsFrom, .inl (cI, 33, .inl v_cutsFrom)), (h_endFrom, .inl (cI, 33, .inl v_endFrom)), (h_changes, .inl (cI, 32, .inl v_changes)), (h_waysFrom, .inl (cJ, 33, .inr (.inl v_waysFrom))), (h_costAt, .inl (cI, 160, .inl v_costAt)), (h_places, .inl (cI, 5, .inl v_places)), (h_isCut, .inl (cZ, 32, .inl v_isCut))] [.int x1] [] (k_X11_spoken l D cI cJ cZ cO z h_t_ h_a h_fresh h_kept h_buffer h_worthFrom h_cutsFrom h_endFrom h_changes h_waysFrom h_costAt h_places h_isCut h_written x1 v_keptMany v_thrown v_buffered v_size v_at v_behind v_kind v_wrong v_wrongAt v_errorAt v_number v_toCut v_toLeave v_writtenMany v_a r_1 hc_) gX11_realTime_X11_spoken rfl ⟨rfl, rfl⟩ hy_X11_spoken ⟨Nat.le_of_ble_eq_true rfl, Nat.le_of_ble_eq_true rfl⟩ rfl rfl rfl (q0 := 0) rfl rfl rfl (Nat.le_of_ble_eq_true rfl) rfl dX11_realTime_2 rfl rfl ?_
  refine gq_istore_n hC [(2, .int r_1), (0, .ref h_t_), (1, .int x1)] dX11_realTime_5 rfl (by decide) rfl ?_
  refine gq_aload_n hC 1 dX11_realTime_6 rfl rfl ?_
  obtain ⟨r_2, v_worthFrom_3, v_cutsFrom_4, v_endFrom_5, v_changes_6, v_waysFrom_7, v_costAt_8, v_places_9, v_isCut_10, hc_, hF⟩ := ob9_e hF
  refine gq_callVi hC [0, 1, 2, 3, 4, 5, 6, 7, 8, 9] [(h_t_, .inr (11, [.ref h_a, .ref h_fresh, .ref h_kept, .int v_keptMany, .int v_thrown, .ref h_buffer, .int v_buffered, .int v_size, .int v_at, .int v_behind, .int v_kind, .int v_wrong, .int v_wrongAt, .int v_errorAt, .long v_number, .ref h_worthFrom, .ref h_cutsFrom, .ref h_endFrom, .ref h_changes, .ref h_waysFrom, .int v_toCut, .int v_toLeave, .ref h_costAt, .ref h_places, .ref h_isCut, .ref h_written, .int v_writtenMany])), (h_a, .inl (cJ, 499, .inr (.inl v_a))), (h_worthFrom, .inl (cI, 33, .inl v_worthFrom_3)), (h_cutsFrom, .inl (cI, 33, .inl v_cutsFrom_4)), (h_endFrom, .inl (cI, 33, .inl v_endFrom_5)), (h_changes, .inl (cI, 32, .inl v_changes_6)), (h_waysFrom, .inl (cJ, 33, .inr (.inl v_waysFrom_7))), (h_costAt, .inl (cI, 160, .inl v_costAt_8)), (h_places, .inl (cI, 5, .inl v_places_9)), (h_isCut, .inl (cZ, 32, .inl v_isCut_10))] [] [] (k_X11_laysPlaces l D cI cJ cZ cO z h_t_ h_a h_worthFrom h_cutsFrom h_endFrom h_changes h_waysFrom h_costAt h_places h_isCut h_fresh h_kept h_buffer h_written v_keptMany v_thrown v_buffered v_size v_at v_behind v_kind v_wrong v_wrongAt v_errorAt v_number v_toCut v_toLeave v_writtenMany v_a v_worthFrom v_cutsFrom v_endFrom v_changes v_waysFrom v_costAt v_places v_isCut r_2 v_worthFrom_3 v_cutsFrom_4 v_endFrom_5 v_changes_6 v_waysFrom_7 v_costAt_8 v_places_9 v_isCut_10 hc_) gX11_realTime_X11_laysPlaces rfl ⟨rfl, rfl⟩ hy_X11_laysPlaces ⟨Nat.le_of_ble_eq_true rfl, Nat.le_of_ble_eq_true rfl⟩ rfl rfl rfl (q0 := 0) rfl rfl rfl (Nat.le_of_ble_eq_true rfl) rfl dX11_realTime_7 rfl rfl ?_
  refine gq_iconst hC (-1 : Int32) dX11_realTime_10 (by decide) ?_
  refine gq_icmp_ne hC 16 dX11_realTime_11 (by decide) (fun hc_28 => ?_) (fun hc_28 => ?_)
  · have hF := (if_neg hc_28).symm.trans hF
    refine gq_iconst hC (0 : Int32) dX11_realTime_16 (by decide) ?_
    refine gq_istore_n hC [(3, .int (0 : Int32)), (2, .int r_1), (0, .ref h_t_), (1, .int x1)] dX11_realTime_17 rfl (by decide) rfl ?_
    have lp18 : ∀ (v_worthFrom_13 : Nat → Int32) (v_cutsFrom_14 : Nat → Int32) (v_endFrom_15 : Nat → Int32) (v_changes_16 : Nat → Int32) (v_waysFrom_17 : Nat → Int64) (v_costAt_18 : Nat → Int32) (v_places_19 : Nat → Int32) (v_isCut_20 : Nat → Int32), ∀ (e_26 : Int32), Gx p l e (rmD 8) s m args below meth c D A 4 Q 0 0 60 [(2, .int e_26)] [] [(h_t_, .inr (11, [.ref h_a, .ref h_fresh, .ref h_kept, .int v_keptMany, .int v_thrown, .ref h_buffer, .int v_buffered, .int v_size, .int v_at, .int v_behind, .int v_kind, .int v_wrong, .int v_wrongAt, .int v_errorAt, .long v_number, .ref h_worthFrom, .ref h_cutsFrom, .ref h_endFrom, .ref h_changes, .ref h_waysFrom, .int v_toCut, .int v_toLeave, .ref h_costAt, .ref h_places, .ref h_isCut, .ref h_written, .int v_writtenMany])), (h_a, .inl (cJ, 499, .inr (.inl v_a))), (h_worthFrom, .inl (cI, 33, .inl v_worthFrom_13)), (h_cutsFrom, .inl (cI, 33, .inl v_cutsFrom_14)), (h_endFrom, .inl (cI, 33, .inl v_endFrom_15)), (h_changes, .inl (cI, 32, .inl v_changes_16)), (h_waysFrom, .inl (cJ, 33, .inr (.inl v_waysFrom_17))), (h_costAt, .inl (cI, 160, .inl v_costAt_18)), (h_places, .inl (cI, 5, .inl v_places_19)), (h_isCut, .inl (cZ, 32, .inl v_isCut_20))] → ∀ (N : Nat) (l2_11 : Int32) (l3_12 : Int32), wh (fun k q => S_X11_realTime_18 x1 v_a v_worthFrom_13 v_cutsFrom_14 v_endFrom_15 v_changes_16 v_waysFrom_17 v_costAt_18 v_places_19 v_isCut_20 k q.1 q.2) N (l2_11, l3_12) = some e_26 → Gx p l e (rmD 8) s m args below meth c D A 4 Q 0 0 18 [(0, .ref h_t_), (1, .int x1), (2, .int l2_11), (3, .int l3_12)] [] [(h_t_, .inr (11, [.ref h_a, .ref h_fresh, .ref h_kept, .int v_keptMany, .int v_thrown, .ref h_buffer, .int v_buffered, .int v_size, .int v_at, .int v_behind, .int v_kind, .int v_wrong, .int v_wrongAt, .int v_errorAt, .long v_number, .ref h_worthFrom, .ref h_cutsFrom, .ref h_endFrom, .ref h_changes, .ref h_waysFrom, .int v_toCut, .int v_toLeave, .ref h_costAt, .ref h_places, .ref h_isCut, .ref h_written, .int v_writtenMany])), (h_a, .inl (cJ, 499, .inr (.inl v_a))), (h_worthFrom, .inl (cI, 33, .inl v_worthFrom_13)), (h_cutsFrom, .inl (cI, 33, .inl v_cutsFrom_14)), (h_endFrom, .inl (cI, 33, .inl v_endFrom_15)), (h_changes, .inl (cI, 32, .inl v_changes_16)), (h_waysFrom, .inl (cJ, 33, .inr (.inl v_waysFrom_17))), (h_costAt, .inl (cI, 160, .inl v_costAt_18)), (h_places, .inl (cI, 5, .inl v_places_19)), (h_isCut, .inl (cZ, 32, .inl v_isCut_20))] := by
      intro v_worthFrom_13 v_cutsFrom_14 v_endFrom_15 v_changes_16 v_waysFrom_17 v_costAt_18 v_places_19 v_isCut_20 e_26 hx0 N
      induction N with
      | zero => intro l2_11 l3_12 hw; exact absurd hw (wh_0 _ _ _)
      | succ N ih =>
        intro l2_11 l3_12 hw
        have hF : S_X11_realTime_18 x1 v_a v_worthFrom_13 v_cutsFrom_14 v_endFrom_15 v_changes_16 v_waysFrom_17 v_costAt_18 v_places_19 v_isCut_20 (wh (fun k q => S_X11_realTime_18 x1 v_a v_worthFrom_13 v_cutsFrom_14 v_endFrom_15 v_changes_16 v_waysFrom_17 v_costAt_18 v_places_19 v_isCut_20 k q.1 q.2) N) l2_11 l3_12 = some e_26 := hw
        unfold S_X11_realTime_18 at hF
        refine gq_iload_n hC 3 dX11_realTime_18 rfl rfl ?_
        refine gq_i2l hC dX11_realTime_19 ?_
        refine gq_aload_n hC 0 dX11_realTime_20 rfl rfl ?_
        refine gq_get hC (kf := 0) 0 hin_X11 rfl rfl (by decide) hw_9 rfl dX11_realTime_21 ?_
        refine gq_bipush hC (8 : Int32) dX11_realTime_24 (by decide) ?_
        obtain ⟨hi_21, hF⟩ := gi_e hF
        refine gq_lald hC 1 1 rfl rfl hi_21 dX11_realTime_26 ?_
        refine gq_lcmp hC dX11_realTime_27 ?_
        refine gq_if_ge hC 60 dX11_realTime_28 (by decide) (fun hc_25 => ?_) (fun hc_25 => ?_)
        · have hF := (if_pos hc_25).symm.trans hF
          refine gq_sub [(2, .int l2_11)] [2] rfl ?_
          cases hF
          exact hx0
        · have hF := (if_neg hc_25).symm.trans hF
          refine gq_iload_n hC 2 dX11_realTime_31 rfl rfl ?_
          refine gq_aload_n hC 0 dX11_realTime_32 rfl rfl ?_
          refine gq_get hC (kf := 23) 0 hin_X11 rfl rfl (by decide) hw_51 rfl dX11_realTime_33 ?_
          refine gq_iload_n hC 3 dX11_realTime_36 rfl rfl ?_
          obtain ⟨hi_22, hF⟩ := gi_e hF
          refine gq_iald hC 8 0 rfl rfl hi_22 dX11_realTime_37 ?_
          refine gq_iload_n hC 1 dX11_realTime_38 rfl rfl ?_
          refine gq_icmp_ge hC 51 dX11_realTime_39 (by decide) (fun hc_24 => ?_) (fun hc_24 => ?_)
          · have hF := (if_pos hc_24).symm.trans hF
            refine gq_iconst hC (0 : Int32) dX11_realTime_51 (by decide) ?_
            refine gq_iadd hC dX11_realTime_52 ?_
            refine gq_istore_n hC [(2, .int (l2_11 + (0 : Int32))), (0, .ref h_t_), (1, .int x1), (3, .int l3_12)] dX11_realTime_53 rfl (by decide) rfl ?_
            refine gq_iinc hC 3 (l3_12 + (1 : Int32)) [(3, .int (l3_12 + (1 : Int32))), (2, .int (l2_11 + (0 : Int32))), (0, .ref h_t_), (1, .int x1)] dX11_realTime_54 rfl rfl (by decide) rfl ?_
            refine gq_goto hC 18 dX11_realTime_57 (by decide) ?_
            refine gq_sub [(0, .ref h_t_), (1, .int x1), (2, .int (l2_11 + (0 : Int32))), (3, .int (l3_12 + (1 : Int32)))] [2, 3, 1, 0] rfl ?_
            exact ih (l2_11 + (0 : Int32)) (l3_12 + (1 : Int32)) hF
          · have hF := (if_neg hc_24).symm.trans hF
            refine gq_aload_n hC 0 dX11_realTime_42 rfl rfl ?_
            refine gq_iload_n hC 3 dX11_realTime_43 rfl rfl ?_
            refine gq_iconst hC (1 : Int32) dX11_realTime_44 (by decide) ?_
            obtain ⟨r_23, hc_, hF⟩ := ob1_e hF
            refine gq_callVi hC [0, 1] [(h_t_, .inr (11, [.ref h_a, .ref h_fresh, .ref h_kept, .int v_keptMany, .int v_thrown, .ref h_buffer, .int v_buffered, .int v_size, .int v_at, .int v_behind, .int v_kind, .int v_wrong, .int v_wrongAt, .int v_errorAt, .long v_number, .ref h_worthFrom, .ref h_cutsFrom, .ref h_endFrom, .ref h_changes, .ref h_waysFrom, .int v_toCut, .int v_toLeave, .ref h_costAt, .ref h_places, .ref h_isCut, .ref h_written, .int v_writtenMany])), (h_a, .inl (cJ, 499, .inr (.inl v_a))), (h_worthFrom, .inl (cI, 33, .inl v_worthFrom_13)), (h_cutsFrom, .inl (cI, 33, .inl v_cutsFrom_14)), (h_endFrom, .inl (cI, 33, .inl v_endFrom_15)), (h_changes, .inl (cI, 32, .inl v_changes_16)), (h_waysFrom, .inl (cJ, 33, .inr (.inl v_waysFrom_17))), (h_costAt, .inl (cI, 160, .inl v_costAt_18)), (h_places, .inl (cI, 5, .inl v_places_19)), (h_isCut, .inl (cZ, 32, .inl v_isCut_20))] [.int l3_12, .int (1 : Int32)] [.int l2_11] (k_X11_ofSlot l D cI cJ cZ cO z h_t_ h_a h_fresh h_kept h_buffer h_worthFrom h_cutsFrom h_endFrom h_changes h_waysFrom h_costAt h_places h_isCut h_written l3_12 (1 : Int32) v_keptMany v_thrown v_buffered v_size v_at v_behind v_kind v_wrong v_wrongAt v_errorAt v_number v_toCut v_toLeave v_writtenMany v_a r_23 hc_) gX11_realTime_X11_ofSlot rfl ⟨rfl, rfl⟩ hy_X11_ofSlot ⟨Nat.le_of_ble_eq_true rfl, Nat.le_of_ble_eq_true rfl⟩ rfl rfl rfl (q0 := 0) rfl rfl rfl (Nat.le_of_ble_eq_true rfl) rfl dX11_realTime_45 rfl rfl ?_
            refine gq_goto hC 52 dX11_realTime_48 (by decide) ?_
            refine gq_iadd hC dX11_realTime_52 ?_
            refine gq_istore_n hC [(2, .int (l2_11 + r_23)), (0, .ref h_t_), (1, .int x1), (3, .int l3_12)] dX11_realTime_53 rfl (by decide) rfl ?_
            refine gq_iinc hC 3 (l3_12 + (1 : Int32)) [(3, .int (l3_12 + (1 : Int32))), (2, .int (l2_11 + r_23)), (0, .ref h_t_), (1, .int x1)] dX11_realTime_54 rfl rfl (by decide) rfl ?_
            refine gq_goto hC 18 dX11_realTime_57 (by decide) ?_
            refine gq_sub [(0, .ref h_t_), (1, .int x1), (2, .int (l2_11 + r_23)), (3, .int (l3_12 + (1 : Int32)))] [2, 3, 1, 0] rfl ?_
            exact ih (l2_11 + r_23) (l3_12 + (1 : Int32)) hF
    refine gq_sub [(0, .ref h_t_), (1, .int x1), (2, .int r_1), (3, .int (0 : Int32))] [2, 3, 1, 0] rfl ?_
    obtain ⟨e_27, hw_, hF⟩ := ob1_e hF
    refine lp18 v_worthFrom_3 v_cutsFrom_4 v_endFrom_5 v_changes_6 v_waysFrom_7 v_costAt_8 v_places_9 v_isCut_10 e_27 ?_ wF r_1 (0 : Int32) hw_
    refine gq_iload_n hC 0 dX11_realTime_60 rfl rfl ?_
    cases hF
    rw [hQ]
    exact gq_iret hC rfl dX11_realTime_61
  · have hF := (if_pos hc_28).symm.trans hF
    refine gq_iload_n hC 0 dX11_realTime_14 rfl rfl ?_
    cases hF
    rw [hQ]
    exact gq_iret hC rfl dX11_realTime_15
theorem hy_X11_segment : yX11_segment.cls = RX11 ∧ yX11_segment.cls ≠ "java/lang/invoke/MethodHandle" ∧ yX11_segment.cls ≠ "java/lang/invoke/VarHandle" ∧ (parseMethodDescriptor yX11_segment.desc).map (fun d => d.parameters.length) = some 2 := by decide +kernel
set_option maxRecDepth 20000 in
set_option maxHeartbeats 4000000 in
theorem k_X11_segment (l : Launch) (D : va_G) (cI cJ cZ cO : ClassId) (z : Nat → Nat)   (h_t_ : Nat) (h_a : Nat) (h_worthFrom : Nat) (h_cutsFrom : Nat) (h_endFrom : Nat) (h_changes : Nat) (h_waysFrom : Nat) (h_costAt : Nat) (h_places : Nat) (h_isCut : Nat) (h_fresh : Nat) (h_kept : Nat) (h_buffer : Nat) (h_written : Nat) (x1 : Int32) (x2 : Int32) (v_keptMany : Int32) (v_thrown : Int32) (v_buffered : Int32) (v_size : Int32) (v_at : Int32) (v_behind : Int32) (v_kind : Int32) (v_wrong : Int32) (v_wrongAt : Int32) (v_errorAt : Int32) (v_number : Int64) (v_toCut : Int32) (v_toLeave : Int32) (v_writtenMany : Int32) (v_a : Nat → Int64) (v_worthFrom : Nat → Int32) (v_cutsFrom : Nat → Int32) (v_endFrom : Nat → Int32) (v_changes : Nat → Int32) (v_waysFrom : Nat → Int64) (v_costAt : Nat → Int32) (v_places : Nat → Int32) (v_isCut : Nat → Int32) (r_ : Int32) (w_thrown : Int32) (w_worthFrom : Nat → Int32) (w_cutsFrom : Nat → Int32) (w_endFrom : Nat → Int32) (w_changes : Nat → Int32) (w_waysFrom : Nat → Int64) (w_costAt : Nat → Int32) (w_places : Nat → Int32) (w_isCut : Nat → Int32) (hF : F_X11_segment x1 x2 v_thrown v_toCut v_toLeave v_a v_worthFrom v_cutsFrom v_endFrom v_changes v_waysFrom v_costAt v_places v_isCut = some (r_, w_thrown, w_worthFrom, w_cutsFrom, w_endFrom, w_changes, w_waysFrom, w_costAt, w_places, w_isCut)) : Mi l yX11_segment wsX11_segment (rmD 9) D (gq_ty cI cJ cZ cO) z [.ref h_t_, .int x1, .int x2] [(h_t_, .inr (11, [.ref h_a, .ref h_fresh, .ref h_kept, .int v_keptMany, .int v_thrown, .ref h_buffer, .int v_buffered, .int v_size, .int v_at, .int v_behind, .int v_kind, .int v_wrong, .int v_wrongAt, .int v_errorAt, .long v_number, .ref h_worthFrom, .ref h_cutsFrom, .ref h_endFrom, .ref h_changes, .ref h_waysFrom, .int v_toCut, .int v_toLeave, .ref h_costAt, .ref h_places, .ref h_isCut, .ref h_written, .int v_writtenMany])), (h_a, .inl (cJ, 499, .inr (.inl v_a))), (h_worthFrom, .inl (cI, 33, .inl v_worthFrom)), (h_cutsFrom, .inl (cI, 33, .inl v_cutsFrom)), (h_endFrom, .inl (cI, 33, .inl v_endFrom)), (h_changes, .inl (cI, 32, .inl v_changes)), (h_waysFrom, .inl (cJ, 33, .inr (.inl v_waysFrom))), (h_costAt, .inl (cI, 160, .inl v_costAt)), (h_places, .inl (cI, 5, .inl v_places)), (h_isCut, .inl (cZ, 32, .inl v_isCut))] r_ [(h_t_, .inr (11, [.ref h_a, .ref h_fresh, .ref h_kept, .int v_keptMany, .int w_thrown, .ref h_buffer, .int v_buffered, .int v_size, .int v_at, .int v_behind, .int v_kind, .int v_wrong, .int v_wrongAt, .int v_errorAt, .long v_number, .ref h_worthFrom, .ref h_cutsFrom, .ref h_endFrom, .ref h_changes, .ref h_waysFrom, .int v_toCut, .int v_toLeave, .ref h_costAt, .ref h_places, .ref h_isCut, .ref h_written, .int v_writtenMany])), (h_a, .inl (cJ, 499, .inr (.inl v_a))), (h_worthFrom, .inl (cI, 33, .inl w_worthFrom)), (h_cutsFrom, .inl (cI, 33, .inl w_cutsFrom)), (h_endFrom, .inl (cI, 33, .inl w_endFrom)), (h_changes, .inl (cI, 32, .inl w_changes)), (h_waysFrom, .inl (cJ, 33, .inr (.inl w_waysFrom))), (h_costAt, .inl (cI, 160, .inl w_costAt)), (h_places, .inl (cI, 5, .inl w_places)), (h_isCut, .inl (cZ, 32, .inl w_isCut))] 0 0 := by
  refine Mi.of (cc := cX11_segment) (maxL := 3) (by decide) rfl (Nat.le_of_ble_eq_true rfl) ⟨Nat.le_refl 0, Nat.le_refl 0⟩ ?_
  intro p e s m args below meth c A hC ha
  have hin_X11 : ∀ w ∈ wsX110, w ∈ wsX11_segment := by decide +kernel
  have hw_79 : Cond.fieldLink RX11 79 (TX11 4).1 (TX11 4).2.1 (TX11 4).2.2.1 ∈ wsX11_segment := by decide +kernel
  obtain ⟨Q, hQ⟩ : ∃ Q, Q = gq_Qi below D A args s r_ [(h_t_, .inr (11, [.ref h_a, .ref h_fresh, .ref h_kept, .int v_keptMany, .int w_thrown, .ref h_buffer, .int v_buffered, .int v_size, .int v_at, .int v_behind, .int v_kind, .int v_wrong, .int v_wrongAt, .int v_errorAt, .long v_number, .ref h_worthFrom, .ref h_cutsFrom, .ref h_endFrom, .ref h_changes, .ref h_waysFrom, .int v_toCut, .int v_toLeave, .ref h_costAt, .ref h_places, .ref h_isCut, .ref h_written, .int v_writtenMany])), (h_a, .inl (cJ, 499, .inr (.inl v_a))), (h_worthFrom, .inl (cI, 33, .inl w_worthFrom)), (h_cutsFrom, .inl (cI, 33, .inl w_cutsFrom)), (h_endFrom, .inl (cI, 33, .inl w_endFrom)), (h_changes, .inl (cI, 32, .inl w_changes)), (h_waysFrom, .inl (cJ, 33, .inr (.inl w_waysFrom))), (h_costAt, .inl (cI, 160, .inl w_costAt)), (h_places, .inl (cI, 5, .inl w_places)), (h_isCut, .inl (cZ, 32, .inl w_isCut))] 0 0 := ⟨_, rfl⟩
  rw [← hQ]
  refine gq_loc [(0, .ref h_t_), (1, .int x1), (2, .int x2)] rfl ?_
  have jb30 : ∀ (st_1 : Int32) (v_thrown_2 : Int32) (v_worthFrom_3 : Nat → Int32) (v_cutsFrom_4 : Nat → Int32) (v_endFrom_5 : Nat → Int32) (v_changes_6 : Nat → Int32) (v_waysFrom_7 : Nat → Int64) (v_costAt_8 : Nat → Int32) (v_places_9 : Nat → Int32) (v_isCut_10 : Nat → Int32), F_X11_segment_b30 x1 x2 st_1 v_thrown_2 v_toCut v_toLeave v_a v_worthFrom_3 v_cutsFrom_4 v_endFrom_5 v_changes_6 v_waysFrom_7 v_costAt_8 v_places_9 v_isCut_10 = some (r_, w_thrown, w_worthFrom, w_cutsFrom, w_endFrom, w_changes, w_waysFrom, w_costAt, w_places, w_isCut) → Gx p l e (rmD 9) s m args below meth c D A 3 Q 0 0 30 [(0, .ref h_t_), (1, .int x1), (2, .int x2)] [.int st_1, .ref h_t_] [(h_t_, .inr (11, [.ref h_a, .ref h_fresh, .ref h_kept, .int v_keptMany, .int v_thrown_2, .ref h_buffer, .int v_buffered, .int v_size, .int v_at, .int v_behind, .int v_kind, .int v_wrong, .int v_wrongAt, .int v_errorAt, .long v_number, .ref h_worthFrom, .ref h_cutsFrom, .ref h_endFrom, .ref h_changes, .ref h_waysFrom, .int v_toCut, .int v_toLeave, .ref h_costAt, .ref h_places, .ref h_isCut, .ref h_written, .int v_writtenMany])), (h_a, .inl (cJ, 499, .inr (.inl v_a))), (h_worthFrom, .inl (cI, 33, .inl v_worthFrom_3)), (h_cutsFrom, .inl (cI, 33, .inl v_cutsFrom_4)), (h_endFrom, .inl (cI, 33, .inl v_endFrom_5)), (h_changes, .inl (cI, 32, .inl v_changes_6)), (h_waysFrom, .inl (cJ, 33, .inr (.inl v_waysFrom_7))), (h_costAt, .inl (cI, 160, .inl v_costAt_8)), (h_places, .inl (cI, 5, .inl v_places_9)), (h_isCut, .inl (cZ, 32, .inl v_isCut_10))] := by
    intro st_1 v_thrown_2 v_worthFrom_3 v_cutsFrom_4 v_endFrom_5 v_changes_6 v_waysFrom_7 v_costAt_8 v_places_9 v_isCut_10 hF
    unfold F_X11_segment_b30 at hF
    refine gq_put1 hC (kf := 4) 0 [(h_t_, .inr (11, [.ref h_a, .ref h_fresh, .ref h_kept, .int v_keptMany, .int st_1, .ref h_buffer, .int v_buffered, .int v_size, .int v_at, .int v_behind, .int v_kind, .int v_wrong, .int v_wrongAt, .int v_errorAt, .long v_number, .ref h_worthFrom, .ref h_cutsFrom, .ref h_endFrom, .ref h_changes, .ref h_waysFrom, .int v_toCut, .int v_toLeave, .ref h_costAt, .ref h_places, .ref h_isCut, .ref h_written, .int v_writtenMany])), (h_a, .inl (cJ, 499, .inr (.inl v_a))), (h_worthFrom, .inl (cI, 33, .inl v_worthFrom_3)), (h_cutsFrom, .inl (cI, 33, .inl v_cutsFrom_4)), (h_endFrom, .inl (cI, 33, .inl v_endFrom_5)), (h_changes, .inl (cI, 32, .inl v_changes_6)), (h_waysFrom, .inl (cJ, 33, .inr (.inl v_waysFrom_7))), (h_costAt, .inl (cI, 160, .inl v_costAt_8)), (h_places, .inl (cI, 5, .inl v_places_9)), (h_isCut, .inl (cZ, 32, .inl v_isCut_10))] tyX11 tyX11_ok nmX11 hin_X11 rfl rfl (by decide) hw_79 rfl rfl rfl (Nat.le_of_ble_eq_true rfl) dX11_segment_30 rfl ?_
    refine gq_aload_n hC 0 dX11_segment_33 rfl rfl ?_
    refine gq_get hC (kf := 4) 0 hin_X11 rfl rfl (by decide) hw_79 rfl dX11_segment_34 ?_
    refine gq_if_le hC 42 dX11_segment_37 (by decide) (fun hc_24 => ?_) (fun hc_24 => ?_)
    · have hF := (if_pos hc_24).symm.trans hF
      refine gq_iload_n hC 2 dX11_segment_42 rfl rfl ?_
      by_cases hn_12 : x2 = 3
      · have hF := (if_pos hn_12).symm.trans hF
        refine gq_lkp hC (off := 25) 68 dX11_segment_43 (by decide) (by rw [hn_12]; decide) (by decide) ?_
        refine gq_aload_n hC 0 dX11_segment_68 rfl rfl ?_
        refine gq_iload_n hC 1 dX11_segment_69 rfl rfl ?_
        obtain ⟨r_23, hc_, hF⟩ := ob1_e hF
        refine gq_callVi hC [0, 1] [(h_t_, .inr (11, [.ref h_a, .ref h_fresh, .ref h_kept, .int v_keptMany, .int st_1, .ref h_buffer, .int v_buffered, .int v_size, .int v_at, .int v_behind, .int v_kind, .int v_wrong, .int v_wrongAt, .int v_errorAt, .long v_number, .ref h_worthFrom, .ref h_cutsFrom, .ref h_endFrom, .ref h_changes, .ref h_waysFrom, .int v_toCut, .int v_toLeave, .ref h_costAt, .ref h_places, .ref h_isCut, .ref h_written, .int v_writtenMany])), (h_a, .inl (cJ, 499, .inr (.inl v_a))), (h_worthFrom, .inl (cI, 33, .inl v_worthFrom_3)), (h_cutsFrom, .inl (cI, 33, .inl v_cutsFrom_4)), (h_endFrom, .inl (cI, 33, .inl v_endFrom_5)), (h_changes, .inl (cI, 32, .inl v_changes_6)), (h_waysFrom, .inl (cJ, 33, .inr (.inl v_waysFrom_7))), (h_costAt, .inl (cI, 160, .inl v_costAt_8)), (h_places, .inl (cI, 5, .inl v_places_9)), (h_isCut, .inl (cZ, 32, .inl v_isCut_10))] [.int x1] [] (k_X11_spoken l D cI cJ cZ cO z h_t_ h_a h_fresh h_kept h_buffer h_worthFrom h_cutsFrom h_endFrom h_changes h_waysFrom h_costAt h_places h_isCut h_written x1 v_keptMany st_1 v_buffered v_size v_at v_behind v_kind v_wrong v_wrongAt v_errorAt v_number v_toCut v_toLeave v_writtenMany v_a r_23 hc_) gX11_segment_X11_spoken rfl ⟨rfl, rfl⟩ hy_X11_spoken ⟨Nat.le_of_ble_eq_true rfl, Nat.le_of_ble_eq_true rfl⟩ rfl rfl rfl (q0 := 0) rfl rfl rfl (Nat.le_of_ble_eq_true rfl) rfl dX11_segment_70 rfl rfl ?_
        cases hF
        rw [hQ]
        exact gq_iret hC rfl dX11_segment_73
      · have hF := (if_neg hn_12).symm.trans hF
        by_cases hn_13 : x2 = 4
        · have hF := (if_pos hn_13).symm.trans hF
          refine gq_lkp hC (off := 31) 74 dX11_segment_43 (by decide) (by rw [hn_13]; decide) (by decide) ?_
          refine gq_aload_n hC 0 dX11_segment_74 rfl rfl ?_
          refine gq_iload_n hC 1 dX11_segment_75 rfl rfl ?_
          obtain ⟨r_14, v_worthFrom_15, v_cutsFrom_16, v_endFrom_17, v_changes_18, v_waysFrom_19, v_costAt_20, v_places_21, v_isCut_22, hc_, hF⟩ := ob9_e hF
          refine gq_callVi hC [0, 1, 2, 3, 4, 5, 6, 7, 8, 9] [(h_t_, .inr (11, [.ref h_a, .ref h_fresh, .ref h_kept, .int v_keptMany, .int st_1, .ref h_buffer, .int v_buffered, .int v_size, .int v_at, .int v_behind, .int v_kind, .int v_wrong, .int v_wrongAt, .int v_errorAt, .long v_number, .ref h_worthFrom, .ref h_cutsFrom, .ref h_endFrom, .ref h_changes, .ref h_waysFrom, .int v_toCut, .int v_toLeave, .ref h_costAt, .ref h_places, .ref h_isCut, .ref h_written, .int v_writtenMany])), (h_a, .inl (cJ, 499, .inr (.inl v_a))), (h_worthFrom, .inl (cI, 33, .inl v_worthFrom_15)), (h_cutsFrom, .inl (cI, 33, .inl v_cutsFrom_16)), (h_endFrom, .inl (cI, 33, .inl v_endFrom_17)), (h_changes, .inl (cI, 32, .inl v_changes_18)), (h_waysFrom, .inl (cJ, 33, .inr (.inl v_waysFrom_19))), (h_costAt, .inl (cI, 160, .inl v_costAt_20)), (h_places, .inl (cI, 5, .inl v_places_21)), (h_isCut, .inl (cZ, 32, .inl v_isCut_22))] [.int x1] [] (k_X11_realTime l D cI cJ cZ cO z h_t_ h_a h_worthFrom h_cutsFrom h_endFrom h_changes h_waysFrom h_costAt h_places h_isCut h_fresh h_kept h_buffer h_written x1 v_keptMany st_1 v_buffered v_size v_at v_behind v_kind v_wrong v_wrongAt v_errorAt v_number v_toCut v_toLeave v_writtenMany v_a v_worthFrom_3 v_cutsFrom_4 v_endFrom_5 v_changes_6 v_waysFrom_7 v_costAt_8 v_places_9 v_isCut_10 r_14 v_worthFrom_15 v_cutsFrom_16 v_endFrom_17 v_changes_18 v_waysFrom_19 v_costAt_20 v_places_21 v_isCut_22 hc_) gX11_segment_X11_realTime rfl ⟨rfl, rfl⟩ hy_X11_realTime ⟨Nat.le_of_ble_eq_true rfl, Nat.le_of_ble_eq_true rfl⟩ rfl rfl rfl (q0 := 0) rfl rfl rfl (Nat.le_of_ble_eq_true rfl) rfl dX11_segment_76 rfl rfl ?_
          cases hF
          rw [hQ]
          exact gq_iret hC rfl dX11_segment_79
        · have hF := (if_neg hn_13).symm.trans hF
          refine gq_lkp hC (off := 37) 80 dX11_segment_43 (by decide) (by show Op.lookupswitch.offset [(3, 25), (4, 31)] 37 _ = 37; rw [lv_osw hn_12 (by decide), lv_osw hn_13 (by decide)]; rfl) (by decide) ?_
          refine gq_aload_n hC 0 dX11_segment_80 rfl rfl ?_
          refine gq_iload_n hC 1 dX11_segment_81 rfl rfl ?_
          refine gq_iload_n hC 2 dX11_segment_82 rfl rfl ?_
          obtain ⟨r_11, hc_, hF⟩ := ob1_e hF
          refine gq_callVi hC [0, 1] [(h_t_, .inr (11, [.ref h_a, .ref h_fresh, .ref h_kept, .int v_keptMany, .int st_1, .ref h_buffer, .int v_buffered, .int v_size, .int v_at, .int v_behind, .int v_kind, .int v_wrong, .int v_wrongAt, .int v_errorAt, .long v_number, .ref h_worthFrom, .ref h_cutsFrom, .ref h_endFrom, .ref h_changes, .ref h_waysFrom, .int v_toCut, .int v_toLeave, .ref h_costAt, .ref h_places, .ref h_isCut, .ref h_written, .int v_writtenMany])), (h_a, .inl (cJ, 499, .inr (.inl v_a))), (h_worthFrom, .inl (cI, 33, .inl v_worthFrom_3)), (h_cutsFrom, .inl (cI, 33, .inl v_cutsFrom_4)), (h_endFrom, .inl (cI, 33, .inl v_endFrom_5)), (h_changes, .inl (cI, 32, .inl v_changes_6)), (h_waysFrom, .inl (cJ, 33, .inr (.inl v_waysFrom_7))), (h_costAt, .inl (cI, 160, .inl v_costAt_8)), (h_places, .inl (cI, 5, .inl v_places_9)), (h_isCut, .inl (cZ, 32, .inl v_isCut_10))] [.int x1, .int x2] [] (k_X11_of l D cI cJ cZ cO z h_t_ h_a h_fresh h_kept h_buffer h_worthFrom h_cutsFrom h_endFrom h_changes h_waysFrom h_costAt h_places h_isCut h_written x1 x2 v_keptMany st_1 v_buffered v_size v_at v_behind v_kind v_wrong v_wrongAt v_errorAt v_number v_toCut v_toLeave v_writtenMany v_a r_11 hc_) gX11_segment_X11_of rfl ⟨rfl, rfl⟩ hy_X11_of ⟨Nat.le_of_ble_eq_true rfl, Nat.le_of_ble_eq_true rfl⟩ rfl rfl rfl (q0 := 0) rfl rfl rfl (Nat.le_of_ble_eq_true rfl) rfl dX11_segment_83 rfl rfl ?_
          cases hF
          rw [hQ]
          exact gq_iret hC rfl dX11_segment_86
    · have hF := (if_neg hc_24).symm.trans hF
      refine gq_iconst hC (0 : Int32) dX11_segment_40 (by decide) ?_
      cases hF
      rw [hQ]
      exact gq_iret hC rfl dX11_segment_41
  unfold F_X11_segment at hF
  refine gq_aload_n hC 0 dX11_segment_0 rfl rfl ?_
  refine gq_aload_n hC 0 dX11_segment_1 rfl rfl ?_
  refine gq_iload_n hC 1 dX11_segment_2 rfl rfl ?_
  obtain ⟨r_25, hc_, hF⟩ := ob1_e hF
  refine gq_callVi hC [0, 1] [(h_t_, .inr (11, [.ref h_a, .ref h_fresh, .ref h_kept, .int v_keptMany, .int v_thrown, .ref h_buffer, .int v_buffered, .int v_size, .int v_at, .int v_behind, .int v_kind, .int v_wrong, .int v_wrongAt, .int v_errorAt, .long v_number, .ref h_worthFrom, .ref h_cutsFrom, .ref h_endFrom, .ref h_changes, .ref h_waysFrom, .int v_toCut, .int v_toLeave, .ref h_costAt, .ref h_places, .ref h_isCut, .ref h_written, .int v_writtenMany])), (h_a, .inl (cJ, 499, .inr (.inl v_a))), (h_worthFrom, .inl (cI, 33, .inl v_worthFrom)), (h_cutsFrom, .inl (cI, 33, .inl v_cutsFrom)), (h_endFrom, .inl (cI, 33, .inl v_endFrom)), (h_changes, .inl (cI, 32, .inl v_changes)), (h_waysFrom, .inl (cJ, 33, .inr (.inl v_waysFrom))), (h_costAt, .inl (cI, 160, .inl v_costAt)), (h_places, .inl (cI, 5, .inl v_places)), (h_isCut, .inl (cZ, 32, .inl v_isCut))] [.int x1] [.ref h_t_] (k_X11_isSegment l D cI cJ cZ cO z h_t_ h_a h_fresh h_kept h_buffer h_worthFrom h_cutsFrom h_endFrom h_changes h_waysFrom h_costAt h_places h_isCut h_written x1 v_keptMany v_thrown v_buffered v_size v_at v_behind v_kind v_wrong v_wrongAt v_errorAt v_number v_toCut v_toLeave v_writtenMany v_a r_25 hc_) gX11_segment_X11_isSegment rfl ⟨rfl, rfl⟩ hy_X11_isSegment ⟨Nat.le_of_ble_eq_true rfl, Nat.le_of_ble_eq_true rfl⟩ rfl rfl rfl (q0 := 0) rfl rfl rfl (Nat.le_of_ble_eq_true rfl) rfl dX11_segment_3 rfl rfl ?_
  refine gq_if_ne hC 13 dX11_segment_6 (by decide) (fun hc_28 => ?_) (fun hc_28 => ?_)
  · have hF := (if_neg hc_28).symm.trans hF
    refine gq_iload_n hC 2 dX11_segment_13 rfl rfl ?_
    refine gq_i2l hC dX11_segment_14 ?_
    refine gq_lconst hC (0 : Int64) dX11_segment_15 (by decide) ?_
    refine gq_ldc2 hC (4 : Int64) dX11_segment_16 (by decide +kernel) ?_
    obtain ⟨r_26, hc_, hF⟩ := ob1_e hF
    refine gq_callSi hC [] [(h_t_, .inr (11, [.ref h_a, .ref h_fresh, .ref h_kept, .int v_keptMany, .int v_thrown, .ref h_buffer, .int v_buffered, .int v_size, .int v_at, .int v_behind, .int v_kind, .int v_wrong, .int v_wrongAt, .int v_errorAt, .long v_number, .ref h_worthFrom, .ref h_cutsFrom, .ref h_endFrom, .ref h_changes, .ref h_waysFrom, .int v_toCut, .int v_toLeave, .ref h_costAt, .ref h_places, .ref h_isCut, .ref h_written, .int v_writtenMany])), (h_a, .inl (cJ, 499, .inr (.inl v_a))), (h_worthFrom, .inl (cI, 33, .inl v_worthFrom)), (h_cutsFrom, .inl (cI, 33, .inl v_cutsFrom)), (h_endFrom, .inl (cI, 33, .inl v_endFrom)), (h_changes, .inl (cI, 32, .inl v_changes)), (h_waysFrom, .inl (cJ, 33, .inr (.inl v_waysFrom))), (h_costAt, .inl (cI, 160, .inl v_costAt)), (h_places, .inl (cI, 5, .inl v_places)), (h_isCut, .inl (cZ, 32, .inl v_isCut))] [.long (x2.toInt64), .long (0 : Int64), .long (4 : Int64)] [.ref h_t_] (k_X11_isIn l D cI cJ cZ cO z  (x2.toInt64) (0 : Int64) (4 : Int64) r_26 hc_) gX11_segment_X11_isIn rfl ⟨rfl, rfl⟩ hy_X11_isIn rfl ⟨Nat.le_of_ble_eq_true rfl, Nat.le_of_ble_eq_true rfl⟩ rfl rfl rfl (Nat.le_of_ble_eq_true rfl) rfl dX11_segment_19 rfl rfl ?_
    refine gq_if_ne hC 29 dX11_segment_22 (by decide) (fun hc_27 => ?_) (fun hc_27 => ?_)
    · have hF := (if_neg hc_27).symm.trans hF
      refine gq_iconst hC (0 : Int32) dX11_segment_29 (by decide) ?_
      exact jb30 (0 : Int32) v_thrown v_worthFrom v_cutsFrom v_endFrom v_changes v_waysFrom v_costAt v_places v_isCut hF
    · have hF := (if_pos hc_27).symm.trans hF
      refine gq_iconst hC (2 : Int32) dX11_segment_25 (by decide) ?_
      refine gq_goto hC 30 dX11_segment_26 (by decide) ?_
      exact jb30 (2 : Int32) v_thrown v_worthFrom v_cutsFrom v_endFrom v_changes v_waysFrom v_costAt v_places v_isCut hF
  · have hF := (if_pos hc_28).symm.trans hF
    refine gq_iconst hC (1 : Int32) dX11_segment_9 (by decide) ?_
    refine gq_goto hC 30 dX11_segment_10 (by decide) ?_
    exact jb30 (1 : Int32) v_thrown v_worthFrom v_cutsFrom v_endFrom v_changes v_waysFrom v_costAt v_places v_isCut hF
theorem hy_X11_wordOf : yX11_wordOf.cls = RX11 ∧ yX11_wordOf.cls ≠ "java/lang/invoke/MethodHandle" ∧ yX11_wordOf.cls ≠ "java/lang/invoke/VarHandle" ∧ (parseMethodDescriptor yX11_wordOf.desc).map (fun d => d.parameters.length) = some 2 := by decide +kernel
set_option maxRecDepth 20000 in
set_option maxHeartbeats 4000000 in
theorem k_X11_wordOf (l : Launch) (D : va_G) (cI cJ cZ cO : ClassId) (z : Nat → Nat)   (h_t_ : Nat) (h_a : Nat) (h_fresh : Nat) (h_kept : Nat) (h_buffer : Nat) (h_worthFrom : Nat) (h_cutsFrom : Nat) (h_endFrom : Nat) (h_changes : Nat) (h_waysFrom : Nat) (h_costAt : Nat) (h_places : Nat) (h_isCut : Nat) (h_written : Nat) (x1 : Int32) (x2 : Int32) (v_keptMany : Int32) (v_thrown : Int32) (v_buffered : Int32) (v_size : Int32) (v_at : Int32) (v_behind : Int32) (v_kind : Int32) (v_wrong : Int32) (v_wrongAt : Int32) (v_errorAt : Int32) (v_number : Int64) (v_toCut : Int32) (v_toLeave : Int32) (v_writtenMany : Int32) (v_a : Nat → Int64) (r_ : Int32) (w_thrown : Int32) (hF : F_X11_wordOf x1 x2 v_thrown v_a = some (r_, w_thrown)) : Mi l yX11_wordOf wsX11_wordOf (rmD 2) D (gq_ty cI cJ cZ cO) z [.ref h_t_, .int x1, .int x2] [(h_t_, .inr (11, [.ref h_a, .ref h_fresh, .ref h_kept, .int v_keptMany, .int v_thrown, .ref h_buffer, .int v_buffered, .int v_size, .int v_at, .int v_behind, .int v_kind, .int v_wrong, .int v_wrongAt, .int v_errorAt, .long v_number, .ref h_worthFrom, .ref h_cutsFrom, .ref h_endFrom, .ref h_changes, .ref h_waysFrom, .int v_toCut, .int v_toLeave, .ref h_costAt, .ref h_places, .ref h_isCut, .ref h_written, .int v_writtenMany])), (h_a, .inl (cJ, 499, .inr (.inl v_a)))] r_ [(h_t_, .inr (11, [.ref h_a, .ref h_fresh, .ref h_kept, .int v_keptMany, .int w_thrown, .ref h_buffer, .int v_buffered, .int v_size, .int v_at, .int v_behind, .int v_kind, .int v_wrong, .int v_wrongAt, .int v_errorAt, .long v_number, .ref h_worthFrom, .ref h_cutsFrom, .ref h_endFrom, .ref h_changes, .ref h_waysFrom, .int v_toCut, .int v_toLeave, .ref h_costAt, .ref h_places, .ref h_isCut, .ref h_written, .int v_writtenMany])), (h_a, .inl (cJ, 499, .inr (.inl v_a)))] 0 0 := by
  refine Mi.of (cc := cX11_wordOf) (maxL := 3) (by decide) rfl (Nat.le_of_ble_eq_true rfl) ⟨Nat.le_refl 0, Nat.le_refl 0⟩ ?_
  intro p e s m args below meth c A hC ha
  have hin_X11 : ∀ w ∈ wsX110, w ∈ wsX11_wordOf := by decide +kernel
  have hw_79 : Cond.fieldLink RX11 79 (TX11 4).1 (TX11 4).2.1 (TX11 4).2.2.1 ∈ wsX11_wordOf := by decide +kernel
  obtain ⟨Q, hQ⟩ : ∃ Q, Q = gq_Qi below D A args s r_ [(h_t_, .inr (11, [.ref h_a, .ref h_fresh, .ref h_kept, .int v_keptMany, .int w_thrown, .ref h_buffer, .int v_buffered, .int v_size, .int v_at, .int v_behind, .int v_kind, .int v_wrong, .int v_wrongAt, .int v_errorAt, .long v_number, .ref h_worthFrom, .ref h_cutsFrom, .ref h_endFrom, .ref h_changes, .ref h_waysFrom, .int v_toCut, .int v_toLeave, .ref h_costAt, .ref h_places, .ref h_isCut, .ref h_written, .int v_writtenMany])), (h_a, .inl (cJ, 499, .inr (.inl v_a)))] 0 0 := ⟨_, rfl⟩
  rw [← hQ]
  refine gq_loc [(0, .ref h_t_), (1, .int x1), (2, .int x2)] rfl ?_
  have jb32 : ∀ (st_1 : Int32) (v_thrown_2 : Int32), F_X11_wordOf_b32 x1 x2 st_1 v_thrown_2 v_a = some (r_, w_thrown) → Gx p l e (rmD 2) s m args below meth c D A 3 Q 0 0 32 [(0, .ref h_t_), (1, .int x1), (2, .int x2)] [.int st_1, .ref h_t_] [(h_t_, .inr (11, [.ref h_a, .ref h_fresh, .ref h_kept, .int v_keptMany, .int v_thrown_2, .ref h_buffer, .int v_buffered, .int v_size, .int v_at, .int v_behind, .int v_kind, .int v_wrong, .int v_wrongAt, .int v_errorAt, .long v_number, .ref h_worthFrom, .ref h_cutsFrom, .ref h_endFrom, .ref h_changes, .ref h_waysFrom, .int v_toCut, .int v_toLeave, .ref h_costAt, .ref h_places, .ref h_isCut, .ref h_written, .int v_writtenMany])), (h_a, .inl (cJ, 499, .inr (.inl v_a)))] := by
    intro st_1 v_thrown_2 hF
    unfold F_X11_wordOf_b32 at hF
    refine gq_put1 hC (kf := 4) 0 [(h_t_, .inr (11, [.ref h_a, .ref h_fresh, .ref h_kept, .int v_keptMany, .int st_1, .ref h_buffer, .int v_buffered, .int v_size, .int v_at, .int v_behind, .int v_kind, .int v_wrong, .int v_wrongAt, .int v_errorAt, .long v_number, .ref h_worthFrom, .ref h_cutsFrom, .ref h_endFrom, .ref h_changes, .ref h_waysFrom, .int v_toCut, .int v_toLeave, .ref h_costAt, .ref h_places, .ref h_isCut, .ref h_written, .int v_writtenMany])), (h_a, .inl (cJ, 499, .inr (.inl v_a)))] tyX11 tyX11_ok nmX11 hin_X11 rfl rfl (by decide) hw_79 rfl rfl rfl (Nat.le_of_ble_eq_true rfl) dX11_wordOf_32 rfl ?_
    refine gq_aload_n hC 0 dX11_wordOf_35 rfl rfl ?_
    refine gq_get hC (kf := 4) 0 hin_X11 rfl rfl (by decide) hw_79 rfl dX11_wordOf_36 ?_
    refine gq_if_le hC 46 dX11_wordOf_39 (by decide) (fun hc_4 => ?_) (fun hc_4 => ?_)
    · have hF := (if_pos hc_4).symm.trans hF
      refine gq_aload_n hC 0 dX11_wordOf_46 rfl rfl ?_
      refine gq_iload_n hC 1 dX11_wordOf_47 rfl rfl ?_
      refine gq_iconst hC (3 : Int32) dX11_wordOf_48 (by decide) ?_
      refine gq_iload_n hC 2 dX11_wordOf_49 rfl rfl ?_
      refine gq_iadd hC dX11_wordOf_50 ?_
      obtain ⟨r_3, hc_, hF⟩ := ob1_e hF
      refine gq_callVi hC [0, 1] [(h_t_, .inr (11, [.ref h_a, .ref h_fresh, .ref h_kept, .int v_keptMany, .int st_1, .ref h_buffer, .int v_buffered, .int v_size, .int v_at, .int v_behind, .int v_kind, .int v_wrong, .int v_wrongAt, .int v_errorAt, .long v_number, .ref h_worthFrom, .ref h_cutsFrom, .ref h_endFrom, .ref h_changes, .ref h_waysFrom, .int v_toCut, .int v_toLeave, .ref h_costAt, .ref h_places, .ref h_isCut, .ref h_written, .int v_writtenMany])), (h_a, .inl (cJ, 499, .inr (.inl v_a)))] [.int x1, .int ((3 : Int32) + x2)] [] (k_X11_of l D cI cJ cZ cO z h_t_ h_a h_fresh h_kept h_buffer h_worthFrom h_cutsFrom h_endFrom h_changes h_waysFrom h_costAt h_places h_isCut h_written x1 ((3 : Int32) + x2) v_keptMany st_1 v_buffered v_size v_at v_behind v_kind v_wrong v_wrongAt v_errorAt v_number v_toCut v_toLeave v_writtenMany v_a r_3 hc_) gX11_wordOf_X11_of rfl ⟨rfl, rfl⟩ hy_X11_of ⟨Nat.le_of_ble_eq_true rfl, Nat.le_of_ble_eq_true rfl⟩ rfl rfl rfl (q0 := 0) rfl rfl rfl (Nat.le_of_ble_eq_true rfl) rfl dX11_wordOf_51 rfl rfl ?_
      cases hF
      rw [hQ]
      exact gq_iret hC rfl dX11_wordOf_54
    · have hF := (if_neg hc_4).symm.trans hF
      refine gq_iconst hC (0 : Int32) dX11_wordOf_42 (by decide) ?_
      refine gq_goto hC 54 dX11_wordOf_43 (by decide) ?_
      cases hF
      rw [hQ]
      exact gq_iret hC rfl dX11_wordOf_54
  have jb31 : ∀ (v_thrown_5 : Int32), F_X11_wordOf_b31 x1 x2 v_thrown_5 v_a = some (r_, w_thrown) → Gx p l e (rmD 2) s m args below meth c D A 3 Q 0 0 31 [(0, .ref h_t_), (1, .int x1), (2, .int x2)] [.ref h_t_] [(h_t_, .inr (11, [.ref h_a, .ref h_fresh, .ref h_kept, .int v_keptMany, .int v_thrown_5, .ref h_buffer, .int v_buffered, .int v_size, .int v_at, .int v_behind, .int v_kind, .int v_wrong, .int v_wrongAt, .int v_errorAt, .long v_number, .ref h_worthFrom, .ref h_cutsFrom, .ref h_endFrom, .ref h_changes, .ref h_waysFrom, .int v_toCut, .int v_toLeave, .ref h_costAt, .ref h_places, .ref h_isCut, .ref h_written, .int v_writtenMany])), (h_a, .inl (cJ, 499, .inr (.inl v_a)))] := by
    intro v_thrown_5 hF
    unfold F_X11_wordOf_b31 at hF
    refine gq_iconst hC (1 : Int32) dX11_wordOf_31 (by decide) ?_
    exact jb32 (1 : Int32) v_thrown_5 hF
  unfold F_X11_wordOf at hF
  refine gq_aload_n hC 0 dX11_wordOf_0 rfl rfl ?_
  refine gq_aload_n hC 0 dX11_wordOf_1 rfl rfl ?_
  refine gq_iload_n hC 1 dX11_wordOf_2 rfl rfl ?_
  obtain ⟨r_6, hc_, hF⟩ := ob1_e hF
  refine gq_callVi hC [0, 1] [(h_t_, .inr (11, [.ref h_a, .ref h_fresh, .ref h_kept, .int v_keptMany, .int v_thrown, .ref h_buffer, .int v_buffered, .int v_size, .int v_at, .int v_behind, .int v_kind, .int v_wrong, .int v_wrongAt, .int v_errorAt, .long v_number, .ref h_worthFrom, .ref h_cutsFrom, .ref h_endFrom, .ref h_changes, .ref h_waysFrom, .int v_toCut, .int v_toLeave, .ref h_costAt, .ref h_places, .ref h_isCut, .ref h_written, .int v_writtenMany])), (h_a, .inl (cJ, 499, .inr (.inl v_a)))] [.int x1] [.ref h_t_] (k_X11_isSegment l D cI cJ cZ cO z h_t_ h_a h_fresh h_kept h_buffer h_worthFrom h_cutsFrom h_endFrom h_changes h_waysFrom h_costAt h_places h_isCut h_written x1 v_keptMany v_thrown v_buffered v_size v_at v_behind v_kind v_wrong v_wrongAt v_errorAt v_number v_toCut v_toLeave v_writtenMany v_a r_6 hc_) gX11_wordOf_X11_isSegment rfl ⟨rfl, rfl⟩ hy_X11_isSegment ⟨Nat.le_of_ble_eq_true rfl, Nat.le_of_ble_eq_true rfl⟩ rfl rfl rfl (q0 := 0) rfl rfl rfl (Nat.le_of_ble_eq_true rfl) rfl dX11_wordOf_3 rfl rfl ?_
  refine gq_if_eq hC 31 dX11_wordOf_6 (by decide) (fun hc_10 => ?_) (fun hc_10 => ?_)
  · have hF := (if_pos hc_10).symm.trans hF
    exact jb31 v_thrown hF
  · have hF := (if_neg hc_10).symm.trans hF
    refine gq_iload_n hC 2 dX11_wordOf_9 rfl rfl ?_
    refine gq_i2l hC dX11_wordOf_10 ?_
    refine gq_lconst hC (0 : Int64) dX11_wordOf_11 (by decide) ?_
    refine gq_aload_n hC 0 dX11_wordOf_12 rfl rfl ?_
    refine gq_iload_n hC 1 dX11_wordOf_13 rfl rfl ?_
    refine gq_iconst hC (2 : Int32) dX11_wordOf_14 (by decide) ?_
    obtain ⟨r_7, hc_, hF⟩ := ob1_e hF
    refine gq_callVi hC [0, 1] [(h_t_, .inr (11, [.ref h_a, .ref h_fresh, .ref h_kept, .int v_keptMany, .int v_thrown, .ref h_buffer, .int v_buffered, .int v_size, .int v_at, .int v_behind, .int v_kind, .int v_wrong, .int v_wrongAt, .int v_errorAt, .long v_number, .ref h_worthFrom, .ref h_cutsFrom, .ref h_endFrom, .ref h_changes, .ref h_waysFrom, .int v_toCut, .int v_toLeave, .ref h_costAt, .ref h_places, .ref h_isCut, .ref h_written, .int v_writtenMany])), (h_a, .inl (cJ, 499, .inr (.inl v_a)))] [.int x1, .int (2 : Int32)] [.long (0 : Int64), .long (x2.toInt64), .ref h_t_] (k_X11_of l D cI cJ cZ cO z h_t_ h_a h_fresh h_kept h_buffer h_worthFrom h_cutsFrom h_endFrom h_changes h_waysFrom h_costAt h_places h_isCut h_written x1 (2 : Int32) v_keptMany v_thrown v_buffered v_size v_at v_behind v_kind v_wrong v_wrongAt v_errorAt v_number v_toCut v_toLeave v_writtenMany v_a r_7 hc_) gX11_wordOf_X11_of rfl ⟨rfl, rfl⟩ hy_X11_of ⟨Nat.le_of_ble_eq_true rfl, Nat.le_of_ble_eq_true rfl⟩ rfl rfl rfl (q0 := 0) rfl rfl rfl (Nat.le_of_ble_eq_true rfl) rfl dX11_wordOf_15 rfl rfl ?_
    refine gq_iconst hC (1 : Int32) dX11_wordOf_18 (by decide) ?_
    refine gq_isub hC dX11_wordOf_19 ?_
    refine gq_i2l hC dX11_wordOf_20 ?_
    obtain ⟨r_8, hc_, hF⟩ := ob1_e hF
    refine gq_callSi hC [] [(h_t_, .inr (11, [.ref h_a, .ref h_fresh, .ref h_kept, .int v_keptMany, .int v_thrown, .ref h_buffer, .int v_buffered, .int v_size, .int v_at, .int v_behind, .int v_kind, .int v_wrong, .int v_wrongAt, .int v_errorAt, .long v_number, .ref h_worthFrom, .ref h_cutsFrom, .ref h_endFrom, .ref h_changes, .ref h_waysFrom, .int v_toCut, .int v_toLeave, .ref h_costAt, .ref h_places, .ref h_isCut, .ref h_written, .int v_writtenMany])), (h_a, .inl (cJ, 499, .inr (.inl v_a)))] [.long (x2.toInt64), .long (0 : Int64), .long ((r_7 - (1 : Int32)).toInt64)] [.ref h_t_] (k_X11_isIn l D cI cJ cZ cO z  (x2.toInt64) (0 : Int64) ((r_7 - (1 : Int32)).toInt64) r_8 hc_) gX11_wordOf_X11_isIn rfl ⟨rfl, rfl⟩ hy_X11_isIn rfl ⟨Nat.le_of_ble_eq_true rfl, Nat.le_of_ble_eq_true rfl⟩ rfl rfl rfl (Nat.le_of_ble_eq_true rfl) rfl dX11_wordOf_21 rfl rfl ?_
    refine gq_if_eq hC 31 dX11_wordOf_24 (by decide) (fun hc_9 => ?_) (fun hc_9 => ?_)
    · have hF := (if_pos hc_9).symm.trans hF
      exact jb31 v_thrown hF
    · have hF := (if_neg hc_9).symm.trans hF
      refine gq_iconst hC (0 : Int32) dX11_wordOf_27 (by decide) ?_
      refine gq_goto hC 32 dX11_wordOf_28 (by decide) ?_
      exact jb32 (0 : Int32) v_thrown hF
theorem hy_X11_find : yX11_find.cls = RX11 ∧ yX11_find.cls ≠ "java/lang/invoke/MethodHandle" ∧ yX11_find.cls ≠ "java/lang/invoke/VarHandle" ∧ (parseMethodDescriptor yX11_find.desc).map (fun d => d.parameters.length) = some 1 := by decide +kernel
set_option maxRecDepth 20000 in
set_option maxHeartbeats 4000000 in
theorem k_X11_find (l : Launch) (D : va_G) (cI cJ cZ cO : ClassId) (z : Nat → Nat)   (h_t_ : Nat) (h_a : Nat) (h_fresh : Nat) (h_kept : Nat) (h_buffer : Nat) (h_worthFrom : Nat) (h_cutsFrom : Nat) (h_endFrom : Nat) (h_changes : Nat) (h_waysFrom : Nat) (h_costAt : Nat) (h_places : Nat) (h_isCut : Nat) (h_written : Nat) (x1 : Int64) (v_keptMany : Int32) (v_thrown : Int32) (v_buffered : Int32) (v_size : Int32) (v_at : Int32) (v_behind : Int32) (v_kind : Int32) (v_wrong : Int32) (v_wrongAt : Int32) (v_errorAt : Int32) (v_number : Int64) (v_toCut : Int32) (v_toLeave : Int32) (v_writtenMany : Int32) (v_a : Nat → Int64) (r_ : Int32) (w_thrown : Int32) (hF : F_X11_find x1 v_thrown v_a = some (r_, w_thrown)) : Mi l yX11_find wsX11_find (rmD 0) D (gq_ty cI cJ cZ cO) z [.ref h_t_, .long x1] [(h_t_, .inr (11, [.ref h_a, .ref h_fresh, .ref h_kept, .int v_keptMany, .int v_thrown, .ref h_buffer, .int v_buffered, .int v_size, .int v_at, .int v_behind, .int v_kind, .int v_wrong, .int v_wrongAt, .int v_errorAt, .long v_number, .ref h_worthFrom, .ref h_cutsFrom, .ref h_endFrom, .ref h_changes, .ref h_waysFrom, .int v_toCut, .int v_toLeave, .ref h_costAt, .ref h_places, .ref h_isCut, .ref h_written, .int v_writtenMany])), (h_a, .inl (cJ, 499, .inr (.inl v_a)))] r_ [(h_t_, .inr (11, [.ref h_a, .ref h_fresh, .ref h_kept, .int v_keptMany, .int w_thrown, .ref h_buffer, .int v_buffered, .int v_size, .int v_at, .int v_behind, .int v_kind, .int v_wrong, .int v_wrongAt, .int v_errorAt, .long v_number, .ref h_worthFrom, .ref h_cutsFrom, .ref h_endFrom, .ref h_changes, .ref h_waysFrom, .int v_toCut, .int v_toLeave, .ref h_costAt, .ref h_places, .ref h_isCut, .ref h_written, .int v_writtenMany])), (h_a, .inl (cJ, 499, .inr (.inl v_a)))] 0 0 := by
  refine Mi.of (cc := cX11_find) (maxL := 4) (by decide) rfl (Nat.le_of_ble_eq_true rfl) ⟨Nat.le_refl 0, Nat.le_refl 0⟩ ?_
  intro p e s m args below meth c A hC ha
  have hin_X11 : ∀ w ∈ wsX110, w ∈ wsX11_find := by decide +kernel
  have hw_9 : Cond.fieldLink RX11 9 (TX11 0).1 (TX11 0).2.1 (TX11 0).2.2.1 ∈ wsX11_find := by decide +kernel
  have hw_79 : Cond.fieldLink RX11 79 (TX11 4).1 (TX11 4).2.1 (TX11 4).2.2.1 ∈ wsX11_find := by decide +kernel
  obtain ⟨Q, hQ⟩ : ∃ Q, Q = gq_Qi below D A args s r_ [(h_t_, .inr (11, [.ref h_a, .ref h_fresh, .ref h_kept, .int v_keptMany, .int w_thrown, .ref h_buffer, .int v_buffered, .int v_size, .int v_at, .int v_behind, .int v_kind, .int v_wrong, .int v_wrongAt, .int v_errorAt, .long v_number, .ref h_worthFrom, .ref h_cutsFrom, .ref h_endFrom, .ref h_changes, .ref h_waysFrom, .int v_toCut, .int v_toLeave, .ref h_costAt, .ref h_places, .ref h_isCut, .ref h_written, .int v_writtenMany])), (h_a, .inl (cJ, 499, .inr (.inl v_a)))] 0 0 := ⟨_, rfl⟩
  rw [← hQ]
  refine gq_loc [(0, .ref h_t_), (1, .long x1)] rfl ?_
  unfold F_X11_find at hF
  refine gq_aload_n hC 0 dX11_find_0 rfl rfl ?_
  refine gq_iconst hC (0 : Int32) dX11_find_1 (by decide) ?_
  refine gq_put1 hC (kf := 4) 0 [(h_t_, .inr (11, [.ref h_a, .ref h_fresh, .ref h_kept, .int v_keptMany, .int (0 : Int32), .ref h_buffer, .int v_buffered, .int v_size, .int v_at, .int v_behind, .int v_kind, .int v_wrong, .int v_wrongAt, .int v_errorAt, .long v_number, .ref h_worthFrom, .ref h_cutsFrom, .ref h_endFrom, .ref h_changes, .ref h_waysFrom, .int v_toCut, .int v_toLeave, .ref h_costAt, .ref h_places, .ref h_isCut, .ref h_written, .int v_writtenMany])), (h_a, .inl (cJ, 499, .inr (.inl v_a)))] tyX11 tyX11_ok nmX11 hin_X11 rfl rfl (by decide) hw_79 rfl rfl rfl (Nat.le_of_ble_eq_true rfl) dX11_find_2 rfl ?_
  refine gq_iconst hC (0 : Int32) dX11_find_5 (by decide) ?_
  refine gq_istore_n hC [(3, .int (0 : Int32)), (0, .ref h_t_), (1, .long x1)] dX11_find_6 rfl (by decide) rfl ?_
  have lp7 : ∀ (v_thrown_2 : Int32), ∀ (out_ : (Int32) ⊕ (Unit)), (∀ (e_7 : Int32), out_ = .inl e_7 → Gx p l e (rmD 0) s m args below meth c D A 4 Q 0 0 35 [(3, .int e_7)] [] [(h_t_, .inr (11, [.ref h_a, .ref h_fresh, .ref h_kept, .int v_keptMany, .int v_thrown_2, .ref h_buffer, .int v_buffered, .int v_size, .int v_at, .int v_behind, .int v_kind, .int v_wrong, .int v_wrongAt, .int v_errorAt, .long v_number, .ref h_worthFrom, .ref h_cutsFrom, .ref h_endFrom, .ref h_changes, .ref h_waysFrom, .int v_toCut, .int v_toLeave, .ref h_costAt, .ref h_places, .ref h_isCut, .ref h_written, .int v_writtenMany])), (h_a, .inl (cJ, 499, .inr (.inl v_a)))]) → (out_ = .inr () → Gx p l e (rmD 0) s m args below meth c D A 4 Q 0 0 43 [] [] [(h_t_, .inr (11, [.ref h_a, .ref h_fresh, .ref h_kept, .int v_keptMany, .int v_thrown_2, .ref h_buffer, .int v_buffered, .int v_size, .int v_at, .int v_behind, .int v_kind, .int v_wrong, .int v_wrongAt, .int v_errorAt, .long v_number, .ref h_worthFrom, .ref h_cutsFrom, .ref h_endFrom, .ref h_changes, .ref h_waysFrom, .int v_toCut, .int v_toLeave, .ref h_costAt, .ref h_places, .ref h_isCut, .ref h_written, .int v_writtenMany])), (h_a, .inl (cJ, 499, .inr (.inl v_a)))]) → ∀ (N : Nat) (l3_1 : Int32), wh (fun k q => S_X11_find_7 x1 v_thrown_2 v_a k q) N l3_1 = some out_ → Gx p l e (rmD 0) s m args below meth c D A 4 Q 0 0 7 [(0, .ref h_t_), (1, .long x1), (3, .int l3_1)] [] [(h_t_, .inr (11, [.ref h_a, .ref h_fresh, .ref h_kept, .int v_keptMany, .int v_thrown_2, .ref h_buffer, .int v_buffered, .int v_size, .int v_at, .int v_behind, .int v_kind, .int v_wrong, .int v_wrongAt, .int v_errorAt, .long v_number, .ref h_worthFrom, .ref h_cutsFrom, .ref h_endFrom, .ref h_changes, .ref h_waysFrom, .int v_toCut, .int v_toLeave, .ref h_costAt, .ref h_places, .ref h_isCut, .ref h_written, .int v_writtenMany])), (h_a, .inl (cJ, 499, .inr (.inl v_a)))] := by
    intro v_thrown_2 out_ hx0 hx1 N
    induction N with
    | zero => intro l3_1 hw; exact absurd hw (wh_0 _ _ _)
    | succ N ih =>
      intro l3_1 hw
      have hF : S_X11_find_7 x1 v_thrown_2 v_a (wh (fun k q => S_X11_find_7 x1 v_thrown_2 v_a k q) N) l3_1 = some out_ := hw
      unfold S_X11_find_7 at hF
      refine gq_iload_n hC 2 dX11_find_7 rfl rfl ?_
      refine gq_i2l hC dX11_find_8 ?_
      refine gq_aload_n hC 0 dX11_find_9 rfl rfl ?_
      refine gq_get hC (kf := 0) 0 hin_X11 rfl rfl (by decide) hw_9 rfl dX11_find_10 ?_
      refine gq_bipush hC (7 : Int32) dX11_find_13 (by decide) ?_
      obtain ⟨hi_3, hF⟩ := gi_e hF
      refine gq_lald hC 1 1 rfl rfl hi_3 dX11_find_15 ?_
      refine gq_lcmp hC dX11_find_16 ?_
      refine gq_if_ge hC 43 dX11_find_17 (by decide) (fun hc_6 => ?_) (fun hc_6 => ?_)
      · have hF := (if_pos hc_6).symm.trans hF
        refine gq_sub [] [] rfl ?_
        exact hx1  (Option.some.inj hF).symm
      · have hF := (if_neg hc_6).symm.trans hF
        refine gq_aload_n hC 0 dX11_find_20 rfl rfl ?_
        refine gq_get hC (kf := 0) 0 hin_X11 rfl rfl (by decide) hw_9 rfl dX11_find_21 ?_
        refine gq_sipush hC (475 : Int32) dX11_find_24 (by decide) ?_
        refine gq_iload_n hC 2 dX11_find_27 rfl rfl ?_
        refine gq_iadd hC dX11_find_28 ?_
        obtain ⟨hi_4, hF⟩ := gi_e hF
        refine gq_lald hC 1 1 rfl rfl hi_4 dX11_find_29 ?_
        refine gq_lload_n hC 1 dX11_find_30 rfl rfl ?_
        refine gq_lcmp hC dX11_find_31 ?_
        refine gq_if_ne hC 37 dX11_find_32 (by decide) (fun hc_5 => ?_) (fun hc_5 => ?_)
        · have hF := (if_neg hc_5).symm.trans hF
          refine gq_iinc hC 2 (l3_1 + (1 : Int32)) [(3, .int (l3_1 + (1 : Int32))), (0, .ref h_t_), (1, .long x1)] dX11_find_37 rfl rfl (by decide) rfl ?_
          refine gq_goto hC 7 dX11_find_40 (by decide) ?_
          refine gq_sub [(0, .ref h_t_), (1, .long x1), (3, .int (l3_1 + (1 : Int32)))] [1, 2, 0] rfl ?_
          exact ih (l3_1 + (1 : Int32)) hF
        · have hF := (if_pos hc_5).symm.trans hF
          refine gq_sub [(3, .int l3_1)] [2] rfl ?_
          exact hx0 _ (Option.some.inj hF).symm
  refine gq_sub [(0, .ref h_t_), (1, .long x1), (3, .int (0 : Int32))] [1, 2, 0] rfl ?_
  obtain ⟨o_, hw_, hF⟩ := ob1_e hF
  refine lp7 (0 : Int32) o_ ?_ ?_ wF (0 : Int32) hw_
  · intro e_8 ho_9
    subst ho_9
    have hF : (some (e_8, (0 : Int32))) = some _ := hF
    refine gq_iload_n hC 0 dX11_find_35 rfl rfl ?_
    cases hF
    rw [hQ]
    exact gq_iret hC rfl dX11_find_36
  · intro  ho_10
    subst ho_10
    have hF : (some ((-1 : Int32), (0 : Int32))) = some _ := hF
    refine gq_iconst hC (-1 : Int32) dX11_find_43 (by decide) ?_
    cases hF
    rw [hQ]
    exact gq_iret hC rfl dX11_find_44
theorem hy_X11_isKnown : yX11_isKnown.cls = RX11 ∧ yX11_isKnown.cls ≠ "java/lang/invoke/MethodHandle" ∧ yX11_isKnown.cls ≠ "java/lang/invoke/VarHandle" ∧ (parseMethodDescriptor yX11_isKnown.desc).map (fun d => d.parameters.length) = some 1 := by decide +kernel
set_option maxRecDepth 20000 in
set_option maxHeartbeats 4000000 in
theorem k_X11_isKnown (l : Launch) (D : va_G) (cI cJ cZ cO : ClassId) (z : Nat → Nat)   (h_t_ : Nat) (h_a : Nat) (h_fresh : Nat) (h_kept : Nat) (h_buffer : Nat) (h_worthFrom : Nat) (h_cutsFrom : Nat) (h_endFrom : Nat) (h_changes : Nat) (h_waysFrom : Nat) (h_costAt : Nat) (h_places : Nat) (h_isCut : Nat) (h_written : Nat) (x1 : Int32) (v_keptMany : Int32) (v_thrown : Int32) (v_buffered : Int32) (v_size : Int32) (v_at : Int32) (v_behind : Int32) (v_kind : Int32) (v_wrong : Int32) (v_wrongAt : Int32) (v_errorAt : Int32) (v_number : Int64) (v_toCut : Int32) (v_toLeave : Int32) (v_writtenMany : Int32) (v_a : Nat → Int64) (r_ : Int32) (hF : F_X11_isKnown x1 v_a = some r_) : Mi l yX11_isKnown wsX11_isKnown (rmD 1) D (gq_ty cI cJ cZ cO) z [.ref h_t_, .int x1] [(h_t_, .inr (11, [.ref h_a, .ref h_fresh, .ref h_kept, .int v_keptMany, .int v_thrown, .ref h_buffer, .int v_buffered, .int v_size, .int v_at, .int v_behind, .int v_kind, .int v_wrong, .int v_wrongAt, .int v_errorAt, .long v_number, .ref h_worthFrom, .ref h_cutsFrom, .ref h_endFrom, .ref h_changes, .ref h_waysFrom, .int v_toCut, .int v_toLeave, .ref h_costAt, .ref h_places, .ref h_isCut, .ref h_written, .int v_writtenMany])), (h_a, .inl (cJ, 499, .inr (.inl v_a)))] r_ [(h_t_, .inr (11, [.ref h_a, .ref h_fresh, .ref h_kept, .int v_keptMany, .int v_thrown, .ref h_buffer, .int v_buffered, .int v_size, .int v_at, .int v_behind, .int v_kind, .int v_wrong, .int v_wrongAt, .int v_errorAt, .long v_number, .ref h_worthFrom, .ref h_cutsFrom, .ref h_endFrom, .ref h_changes, .ref h_waysFrom, .int v_toCut, .int v_toLeave, .ref h_costAt, .ref h_places, .ref h_isCut, .ref h_written, .int v_writtenMany])), (h_a, .inl (cJ, 499, .inr (.inl v_a)))] 0 0 := by
  refine Mi.of (cc := cX11_isKnown) (maxL := 2) (by decide) rfl (Nat.le_of_ble_eq_true rfl) ⟨Nat.le_refl 0, Nat.le_refl 0⟩ ?_
  intro p e s m args below meth c A hC ha
  have hin_X11 : ∀ w ∈ wsX110, w ∈ wsX11_isKnown := by decide +kernel
  have hw_9 : Cond.fieldLink RX11 9 (TX11 0).1 (TX11 0).2.1 (TX11 0).2.2.1 ∈ wsX11_isKnown := by decide +kernel
  obtain ⟨Q, hQ⟩ : ∃ Q, Q = gq_Qi below D A args s r_ [(h_t_, .inr (11, [.ref h_a, .ref h_fresh, .ref h_kept, .int v_keptMany, .int v_thrown, .ref h_buffer, .int v_buffered, .int v_size, .int v_at, .int v_behind, .int v_kind, .int v_wrong, .int v_wrongAt, .int v_errorAt, .long v_number, .ref h_worthFrom, .ref h_cutsFrom, .ref h_endFrom, .ref h_changes, .ref h_waysFrom, .int v_toCut, .int v_toLeave, .ref h_costAt, .ref h_places, .ref h_isCut, .ref h_written, .int v_writtenMany])), (h_a, .inl (cJ, 499, .inr (.inl v_a)))] 0 0 := ⟨_, rfl⟩
  rw [← hQ]
  refine gq_loc [(0, .ref h_t_), (1, .int x1)] rfl ?_
  unfold F_X11_isKnown at hF
  refine gq_iload_n hC 1 dX11_isKnown_0 rfl rfl ?_
  refine gq_i2l hC dX11_isKnown_1 ?_
  refine gq_lconst hC (0 : Int64) dX11_isKnown_2 (by decide) ?_
  refine gq_aload_n hC 0 dX11_isKnown_3 rfl rfl ?_
  refine gq_get hC (kf := 0) 0 hin_X11 rfl rfl (by decide) hw_9 rfl dX11_isKnown_4 ?_
  refine gq_bipush hC (7 : Int32) dX11_isKnown_7 (by decide) ?_
  obtain ⟨hi_1, hF⟩ := gi_e hF
  refine gq_lald hC 1 1 rfl rfl hi_1 dX11_isKnown_9 ?_
  refine gq_lconst hC (1 : Int64) dX11_isKnown_10 (by decide) ?_
  refine gq_lsub hC dX11_isKnown_11 ?_
  obtain ⟨r_2, hc_, hF⟩ := ob1_e hF
  refine gq_callSi hC [] [(h_t_, .inr (11, [.ref h_a, .ref h_fresh, .ref h_kept, .int v_keptMany, .int v_thrown, .ref h_buffer, .int v_buffered, .int v_size, .int v_at, .int v_behind, .int v_kind, .int v_wrong, .int v_wrongAt, .int v_errorAt, .long v_number, .ref h_worthFrom, .ref h_cutsFrom, .ref h_endFrom, .ref h_changes, .ref h_waysFrom, .int v_toCut, .int v_toLeave, .ref h_costAt, .ref h_places, .ref h_isCut, .ref h_written, .int v_writtenMany])), (h_a, .inl (cJ, 499, .inr (.inl v_a)))] [.long (x1.toInt64), .long (0 : Int64), .long ((v_a (7 : Int32).toNatClampNeg) - (1 : Int64))] [] (k_X11_isIn l D cI cJ cZ cO z  (x1.toInt64) (0 : Int64) ((v_a (7 : Int32).toNatClampNeg) - (1 : Int64)) r_2 hc_) gX11_isKnown_X11_isIn rfl ⟨rfl, rfl⟩ hy_X11_isIn rfl ⟨Nat.le_of_ble_eq_true rfl, Nat.le_of_ble_eq_true rfl⟩ rfl rfl rfl (Nat.le_of_ble_eq_true rfl) rfl dX11_isKnown_12 rfl rfl ?_
  obtain ⟨hb_3, hF⟩ := gb_e hF
  cases hF
  rw [hQ]
  exact gq_iret hC (gb_n hb_3) dX11_isKnown_15
theorem hy_X11_uses : yX11_uses.cls = RX11 ∧ yX11_uses.cls ≠ "java/lang/invoke/MethodHandle" ∧ yX11_uses.cls ≠ "java/lang/invoke/VarHandle" ∧ (parseMethodDescriptor yX11_uses.desc).map (fun d => d.parameters.length) = some 3 := by decide +kernel
set_option maxRecDepth 20000 in
set_option maxHeartbeats 4000000 in
theorem k_X11_uses (l : Launch) (D : va_G) (cI cJ cZ cO : ClassId) (z : Nat → Nat)   (h_t_ : Nat) (h_a : Nat) (h_fresh : Nat) (h_kept : Nat) (h_buffer : Nat) (h_worthFrom : Nat) (h_cutsFrom : Nat) (h_endFrom : Nat) (h_changes : Nat) (h_waysFrom : Nat) (h_costAt : Nat) (h_places : Nat) (h_isCut : Nat) (h_written : Nat) (x1 : Int32) (x2 : Int32) (x3 : Int32) (v_keptMany : Int32) (v_thrown : Int32) (v_buffered : Int32) (v_size : Int32) (v_at : Int32) (v_behind : Int32) (v_kind : Int32) (v_wrong : Int32) (v_wrongAt : Int32) (v_errorAt : Int32) (v_number : Int64) (v_toCut : Int32) (v_toLeave : Int32) (v_writtenMany : Int32) (v_a : Nat → Int64) (r_ : Int32) (w_thrown : Int32) (hF : F_X11_uses x1 x2 x3 v_thrown v_a = some (r_, w_thrown)) : Mi l yX11_uses wsX11_uses (rmD 2) D (gq_ty cI cJ cZ cO) z [.ref h_t_, .int x1, .int x2, .int x3] [(h_t_, .inr (11, [.ref h_a, .ref h_fresh, .ref h_kept, .int v_keptMany, .int v_thrown, .ref h_buffer, .int v_buffered, .int v_size, .int v_at, .int v_behind, .int v_kind, .int v_wrong, .int v_wrongAt, .int v_errorAt, .long v_number, .ref h_worthFrom, .ref h_cutsFrom, .ref h_endFrom, .ref h_changes, .ref h_waysFrom, .int v_toCut, .int v_toLeave, .ref h_costAt, .ref h_places, .ref h_isCut, .ref h_written, .int v_writtenMany])), (h_a, .inl (cJ, 499, .inr (.inl v_a)))] r_ [(h_t_, .inr (11, [.ref h_a, .ref h_fresh, .ref h_kept, .int v_keptMany, .int w_thrown, .ref h_buffer, .int v_buffered, .int v_size, .int v_at, .int v_behind, .int v_kind, .int v_wrong, .int v_wrongAt, .int v_errorAt, .long v_number, .ref h_worthFrom, .ref h_cutsFrom, .ref h_endFrom, .ref h_changes, .ref h_waysFrom, .int v_toCut, .int v_toLeave, .ref h_costAt, .ref h_places, .ref h_isCut, .ref h_written, .int v_writtenMany])), (h_a, .inl (cJ, 499, .inr (.inl v_a)))] 0 0 := by
  refine Mi.of (cc := cX11_uses) (maxL := 4) (by decide) rfl (Nat.le_of_ble_eq_true rfl) ⟨Nat.le_refl 0, Nat.le_refl 0⟩ ?_
  intro p e s m args below meth c A hC ha
  have hin_X11 : ∀ w ∈ wsX110, w ∈ wsX11_uses := by decide +kernel
  have hw_79 : Cond.fieldLink RX11 79 (TX11 4).1 (TX11 4).2.1 (TX11 4).2.2.1 ∈ wsX11_uses := by decide +kernel
  obtain ⟨Q, hQ⟩ : ∃ Q, Q = gq_Qi below D A args s r_ [(h_t_, .inr (11, [.ref h_a, .ref h_fresh, .ref h_kept, .int v_keptMany, .int w_thrown, .ref h_buffer, .int v_buffered, .int v_size, .int v_at, .int v_behind, .int v_kind, .int v_wrong, .int v_wrongAt, .int v_errorAt, .long v_number, .ref h_worthFrom, .ref h_cutsFrom, .ref h_endFrom, .ref h_changes, .ref h_waysFrom, .int v_toCut, .int v_toLeave, .ref h_costAt, .ref h_places, .ref h_isCut, .ref h_written, .int v_writtenMany])), (h_a, .inl (cJ, 499, .inr (.inl v_a)))] 0 0 := ⟨_, rfl⟩
  rw [← hQ]
  refine gq_loc [(0, .ref h_t_), (1, .int x1), (2, .int x2), (3, .int x3)] rfl ?_
  have jb39 : ∀ (st_1 : Int32) (v_thrown_2 : Int32), F_X11_uses_b39 x1 x2 x3 st_1 v_thrown_2 v_a = some (r_, w_thrown) → Gx p l e (rmD 2) s m args below meth c D A 4 Q 0 0 39 [(0, .ref h_t_), (1, .int x1), (2, .int x2), (3, .int x3)] [.int st_1, .ref h_t_] [(h_t_, .inr (11, [.ref h_a, .ref h_fresh, .ref h_kept, .int v_keptMany, .int v_thrown_2, .ref h_buffer, .int v_buffered, .int v_size, .int v_at, .int v_behind, .int v_kind, .int v_wrong, .int v_wrongAt, .int v_errorAt, .long v_number, .ref h_worthFrom, .ref h_cutsFrom, .ref h_endFrom, .ref h_changes, .ref h_waysFrom, .int v_toCut, .int v_toLeave, .ref h_costAt, .ref h_places, .ref h_isCut, .ref h_written, .int v_writtenMany])), (h_a, .inl (cJ, 499, .inr (.inl v_a)))] := by
    intro st_1 v_thrown_2 hF
    unfold F_X11_uses_b39 at hF
    refine gq_put1 hC (kf := 4) 0 [(h_t_, .inr (11, [.ref h_a, .ref h_fresh, .ref h_kept, .int v_keptMany, .int st_1, .ref h_buffer, .int v_buffered, .int v_size, .int v_at, .int v_behind, .int v_kind, .int v_wrong, .int v_wrongAt, .int v_errorAt, .long v_number, .ref h_worthFrom, .ref h_cutsFrom, .ref h_endFrom, .ref h_changes, .ref h_waysFrom, .int v_toCut, .int v_toLeave, .ref h_costAt, .ref h_places, .ref h_isCut, .ref h_written, .int v_writtenMany])), (h_a, .inl (cJ, 499, .inr (.inl v_a)))] tyX11 tyX11_ok nmX11 hin_X11 rfl rfl (by decide) hw_79 rfl rfl rfl (Nat.le_of_ble_eq_true rfl) dX11_uses_39 rfl ?_
    refine gq_aload_n hC 0 dX11_uses_42 rfl rfl ?_
    refine gq_get hC (kf := 4) 0 hin_X11 rfl rfl (by decide) hw_79 rfl dX11_uses_43 ?_
    refine gq_if_le hC 53 dX11_uses_46 (by decide) (fun hc_4 => ?_) (fun hc_4 => ?_)
    · have hF := (if_pos hc_4).symm.trans hF
      refine gq_aload_n hC 0 dX11_uses_53 rfl rfl ?_
      refine gq_iload_n hC 1 dX11_uses_54 rfl rfl ?_
      refine gq_iload_n hC 2 dX11_uses_55 rfl rfl ?_
      refine gq_iload_n hC 3 dX11_uses_56 rfl rfl ?_
      obtain ⟨r_3, hc_, hF⟩ := ob1_e hF
      refine gq_callVi hC [0, 1] [(h_t_, .inr (11, [.ref h_a, .ref h_fresh, .ref h_kept, .int v_keptMany, .int st_1, .ref h_buffer, .int v_buffered, .int v_size, .int v_at, .int v_behind, .int v_kind, .int v_wrong, .int v_wrongAt, .int v_errorAt, .long v_number, .ref h_worthFrom, .ref h_cutsFrom, .ref h_endFrom, .ref h_changes, .ref h_waysFrom, .int v_toCut, .int v_toLeave, .ref h_costAt, .ref h_places, .ref h_isCut, .ref h_written, .int v_writtenMany])), (h_a, .inl (cJ, 499, .inr (.inl v_a)))] [.int x1, .int x2, .int x3] [] (k_X11_usesIn l D cI cJ cZ cO z h_t_ h_a h_fresh h_kept h_buffer h_worthFrom h_cutsFrom h_endFrom h_changes h_waysFrom h_costAt h_places h_isCut h_written x1 x2 x3 v_keptMany st_1 v_buffered v_size v_at v_behind v_kind v_wrong v_wrongAt v_errorAt v_number v_toCut v_toLeave v_writtenMany v_a r_3 hc_) gX11_uses_X11_usesIn rfl ⟨rfl, rfl⟩ hy_X11_usesIn ⟨Nat.le_of_ble_eq_true rfl, Nat.le_of_ble_eq_true rfl⟩ rfl rfl rfl (q0 := 0) rfl rfl rfl (Nat.le_of_ble_eq_true rfl) rfl dX11_uses_57 rfl rfl ?_
      cases hF
      rw [hQ]
      exact gq_iret hC rfl dX11_uses_60
    · have hF := (if_neg hc_4).symm.trans hF
      refine gq_iconst hC (0 : Int32) dX11_uses_49 (by decide) ?_
      refine gq_goto hC 60 dX11_uses_50 (by decide) ?_
      cases hF
      rw [hQ]
      exact gq_iret hC rfl dX11_uses_60
  have jb25 : ∀ (v_thrown_5 : Int32), F_X11_uses_b25 x1 x2 x3 v_thrown_5 v_a = some (r_, w_thrown) → Gx p l e (rmD 2) s m args below meth c D A 4 Q 0 0 25 [(0, .ref h_t_), (1, .int x1), (2, .int x2), (3, .int x3)] [.ref h_t_] [(h_t_, .inr (11, [.ref h_a, .ref h_fresh, .ref h_kept, .int v_keptMany, .int v_thrown_5, .ref h_buffer, .int v_buffered, .int v_size, .int v_at, .int v_behind, .int v_kind, .int v_wrong, .int v_wrongAt, .int v_errorAt, .long v_number, .ref h_worthFrom, .ref h_cutsFrom, .ref h_endFrom, .ref h_changes, .ref h_waysFrom, .int v_toCut, .int v_toLeave, .ref h_costAt, .ref h_places, .ref h_isCut, .ref h_written, .int v_writtenMany])), (h_a, .inl (cJ, 499, .inr (.inl v_a)))] := by
    intro v_thrown_5 hF
    unfold F_X11_uses_b25 at hF
    refine gq_iconst hC (1 : Int32) dX11_uses_25 (by decide) ?_
    refine gq_goto hC 39 dX11_uses_26 (by decide) ?_
    exact jb39 (1 : Int32) v_thrown_5 hF
  unfold F_X11_uses at hF
  refine gq_aload_n hC 0 dX11_uses_0 rfl rfl ?_
  refine gq_aload_n hC 0 dX11_uses_1 rfl rfl ?_
  refine gq_iload_n hC 1 dX11_uses_2 rfl rfl ?_
  obtain ⟨r_6, hc_, hF⟩ := ob1_e hF
  refine gq_callVi hC [0, 1] [(h_t_, .inr (11, [.ref h_a, .ref h_fresh, .ref h_kept, .int v_keptMany, .int v_thrown, .ref h_buffer, .int v_buffered, .int v_size, .int v_at, .int v_behind, .int v_kind, .int v_wrong, .int v_wrongAt, .int v_errorAt, .long v_number, .ref h_worthFrom, .ref h_cutsFrom, .ref h_endFrom, .ref h_changes, .ref h_waysFrom, .int v_toCut, .int v_toLeave, .ref h_costAt, .ref h_places, .ref h_isCut, .ref h_written, .int v_writtenMany])), (h_a, .inl (cJ, 499, .inr (.inl v_a)))] [.int x1] [.ref h_t_] (k_X11_isKnown l D cI cJ cZ cO z h_t_ h_a h_fresh h_kept h_buffer h_worthFrom h_cutsFrom h_endFrom h_changes h_waysFrom h_costAt h_places h_isCut h_written x1 v_keptMany v_thrown v_buffered v_size v_at v_behind v_kind v_wrong v_wrongAt v_errorAt v_number v_toCut v_toLeave v_writtenMany v_a r_6 hc_) gX11_uses_X11_isKnown rfl ⟨rfl, rfl⟩ hy_X11_isKnown ⟨Nat.le_of_ble_eq_true rfl, Nat.le_of_ble_eq_true rfl⟩ rfl rfl rfl (q0 := 0) rfl rfl rfl (Nat.le_of_ble_eq_true rfl) rfl dX11_uses_3 rfl rfl ?_
  refine gq_if_eq hC 25 dX11_uses_6 (by decide) (fun hc_12 => ?_) (fun hc_12 => ?_)
  · have hF := (if_pos hc_12).symm.trans hF
    exact jb25 v_thrown hF
  · have hF := (if_neg hc_12).symm.trans hF
    refine gq_aload_n hC 0 dX11_uses_9 rfl rfl ?_
    refine gq_iload_n hC 2 dX11_uses_10 rfl rfl ?_
    obtain ⟨r_7, hc_, hF⟩ := ob1_e hF
    refine gq_callVi hC [0, 1] [(h_t_, .inr (11, [.ref h_a, .ref h_fresh, .ref h_kept, .int v_keptMany, .int v_thrown, .ref h_buffer, .int v_buffered, .int v_size, .int v_at, .int v_behind, .int v_kind, .int v_wrong, .int v_wrongAt, .int v_errorAt, .long v_number, .ref h_worthFrom, .ref h_cutsFrom, .ref h_endFrom, .ref h_changes, .ref h_waysFrom, .int v_toCut, .int v_toLeave, .ref h_costAt, .ref h_places, .ref h_isCut, .ref h_written, .int v_writtenMany])), (h_a, .inl (cJ, 499, .inr (.inl v_a)))] [.int x2] [.ref h_t_] (k_X11_isSegment l D cI cJ cZ cO z h_t_ h_a h_fresh h_kept h_buffer h_worthFrom h_cutsFrom h_endFrom h_changes h_waysFrom h_costAt h_places h_isCut h_written x2 v_keptMany v_thrown v_buffered v_size v_at v_behind v_kind v_wrong v_wrongAt v_errorAt v_number v_toCut v_toLeave v_writtenMany v_a r_7 hc_) gX11_uses_X11_isSegment rfl ⟨rfl, rfl⟩ hy_X11_isSegment ⟨Nat.le_of_ble_eq_true rfl, Nat.le_of_ble_eq_true rfl⟩ rfl rfl rfl (q0 := 0) rfl rfl rfl (Nat.le_of_ble_eq_true rfl) rfl dX11_uses_11 rfl rfl ?_
    refine gq_if_eq hC 25 dX11_uses_14 (by decide) (fun hc_11 => ?_) (fun hc_11 => ?_)
    · have hF := (if_pos hc_11).symm.trans hF
      exact jb25 v_thrown hF
    · have hF := (if_neg hc_11).symm.trans hF
      refine gq_aload_n hC 0 dX11_uses_17 rfl rfl ?_
      refine gq_iload_n hC 3 dX11_uses_18 rfl rfl ?_
      obtain ⟨r_8, hc_, hF⟩ := ob1_e hF
      refine gq_callVi hC [0, 1] [(h_t_, .inr (11, [.ref h_a, .ref h_fresh, .ref h_kept, .int v_keptMany, .int v_thrown, .ref h_buffer, .int v_buffered, .int v_size, .int v_at, .int v_behind, .int v_kind, .int v_wrong, .int v_wrongAt, .int v_errorAt, .long v_number, .ref h_worthFrom, .ref h_cutsFrom, .ref h_endFrom, .ref h_changes, .ref h_waysFrom, .int v_toCut, .int v_toLeave, .ref h_costAt, .ref h_places, .ref h_isCut, .ref h_written, .int v_writtenMany])), (h_a, .inl (cJ, 499, .inr (.inl v_a)))] [.int x3] [.ref h_t_] (k_X11_isSegment l D cI cJ cZ cO z h_t_ h_a h_fresh h_kept h_buffer h_worthFrom h_cutsFrom h_endFrom h_changes h_waysFrom h_costAt h_places h_isCut h_written x3 v_keptMany v_thrown v_buffered v_size v_at v_behind v_kind v_wrong v_wrongAt v_errorAt v_number v_toCut v_toLeave v_writtenMany v_a r_8 hc_) gX11_uses_X11_isSegment rfl ⟨rfl, rfl⟩ hy_X11_isSegment ⟨Nat.le_of_ble_eq_true rfl, Nat.le_of_ble_eq_true rfl⟩ rfl rfl rfl (q0 := 0) rfl rfl rfl (Nat.le_of_ble_eq_true rfl) rfl dX11_uses_19 rfl rfl ?_
      refine gq_if_ne hC 29 dX11_uses_22 (by decide) (fun hc_10 => ?_) (fun hc_10 => ?_)
      · have hF := (if_neg hc_10).symm.trans hF
        refine gq_iload_n hC 3 dX11_uses_29 rfl rfl ?_
        refine gq_iload_n hC 2 dX11_uses_30 rfl rfl ?_
        refine gq_icmp_ge hC 38 dX11_uses_31 (by decide) (fun hc_9 => ?_) (fun hc_9 => ?_)
        · have hF := (if_pos hc_9).symm.trans hF
          refine gq_iconst hC (0 : Int32) dX11_uses_38 (by decide) ?_
          exact jb39 (0 : Int32) v_thrown hF
        · have hF := (if_neg hc_9).symm.trans hF
          refine gq_iconst hC (2 : Int32) dX11_uses_34 (by decide) ?_
          refine gq_goto hC 39 dX11_uses_35 (by decide) ?_
          exact jb39 (2 : Int32) v_thrown hF
      · have hF := (if_pos hc_10).symm.trans hF
        exact jb25 v_thrown hF
theorem hy_X11_puts : yX11_puts.cls = RX11 ∧ yX11_puts.cls ≠ "java/lang/invoke/MethodHandle" ∧ yX11_puts.cls ≠ "java/lang/invoke/VarHandle" ∧ (parseMethodDescriptor yX11_puts.desc).map (fun d => d.parameters.length) = some 3 := by decide +kernel
set_option maxRecDepth 20000 in
set_option maxHeartbeats 4000000 in
theorem k_X11_puts (l : Launch) (D : va_G) (cI cJ cZ cO : ClassId) (z : Nat → Nat)   (h_t_ : Nat) (h_a : Nat) (h_kept : Nat) (h_fresh : Nat) (h_buffer : Nat) (h_worthFrom : Nat) (h_cutsFrom : Nat) (h_endFrom : Nat) (h_changes : Nat) (h_waysFrom : Nat) (h_costAt : Nat) (h_places : Nat) (h_isCut : Nat) (h_written : Nat) (x1 : Int32) (x2 : Int32) (x3 : Int32) (v_keptMany : Int32) (v_thrown : Int32) (v_buffered : Int32) (v_size : Int32) (v_at : Int32) (v_behind : Int32) (v_kind : Int32) (v_wrong : Int32) (v_wrongAt : Int32) (v_errorAt : Int32) (v_number : Int64) (v_toCut : Int32) (v_toLeave : Int32) (v_writtenMany : Int32) (v_a : Nat → Int64) (v_kept : Nat → Int64) (r_ : Int32) (w_keptMany : Int32) (w_a : Nat → Int64) (w_kept : Nat → Int64) (hF : F_X11_puts x1 x2 x3 v_keptMany v_a v_kept = some (r_, w_keptMany, w_a, w_kept)) : Mi l yX11_puts wsX11_puts (rmD 1) D (gq_ty cI cJ cZ cO) z [.ref h_t_, .int x1, .int x2, .int x3] [(h_t_, .inr (11, [.ref h_a, .ref h_fresh, .ref h_kept, .int v_keptMany, .int v_thrown, .ref h_buffer, .int v_buffered, .int v_size, .int v_at, .int v_behind, .int v_kind, .int v_wrong, .int v_wrongAt, .int v_errorAt, .long v_number, .ref h_worthFrom, .ref h_cutsFrom, .ref h_endFrom, .ref h_changes, .ref h_waysFrom, .int v_toCut, .int v_toLeave, .ref h_costAt, .ref h_places, .ref h_isCut, .ref h_written, .int v_writtenMany])), (h_a, .inl (cJ, 499, .inr (.inl v_a))), (h_kept, .inl (cJ, 3992, .inr (.inl v_kept)))] r_ [(h_t_, .inr (11, [.ref h_a, .ref h_fresh, .ref h_kept, .int w_keptMany, .int v_thrown, .ref h_buffer, .int v_buffered, .int v_size, .int v_at, .int v_behind, .int v_kind, .int v_wrong, .int v_wrongAt, .int v_errorAt, .long v_number, .ref h_worthFrom, .ref h_cutsFrom, .ref h_endFrom, .ref h_changes, .ref h_waysFrom, .int v_toCut, .int v_toLeave, .ref h_costAt, .ref h_places, .ref h_isCut, .ref h_written, .int v_writtenMany])), (h_a, .inl (cJ, 499, .inr (.inl w_a))), (h_kept, .inl (cJ, 3992, .inr (.inl w_kept)))] 0 0 := by
  refine Mi.of (cc := cX11_puts) (maxL := 5) (by decide) rfl (Nat.le_of_ble_eq_true rfl) ⟨Nat.le_refl 0, Nat.le_refl 0⟩ ?_
  intro p e s m args below meth c A hC ha
  have hin_X11 : ∀ w ∈ wsX110, w ∈ wsX11_puts := by decide +kernel
  have hw_9 : Cond.fieldLink RX11 9 (TX11 0).1 (TX11 0).2.1 (TX11 0).2.2.1 ∈ wsX11_puts := by decide +kernel
  obtain ⟨Q, hQ⟩ : ∃ Q, Q = gq_Qi below D A args s r_ [(h_t_, .inr (11, [.ref h_a, .ref h_fresh, .ref h_kept, .int w_keptMany, .int v_thrown, .ref h_buffer, .int v_buffered, .int v_size, .int v_at, .int v_behind, .int v_kind, .int v_wrong, .int v_wrongAt, .int v_errorAt, .long v_number, .ref h_worthFrom, .ref h_cutsFrom, .ref h_endFrom, .ref h_changes, .ref h_waysFrom, .int v_toCut, .int v_toLeave, .ref h_costAt, .ref h_places, .ref h_isCut, .ref h_written, .int v_writtenMany])), (h_a, .inl (cJ, 499, .inr (.inl w_a))), (h_kept, .inl (cJ, 3992, .inr (.inl w_kept)))] 0 0 := ⟨_, rfl⟩
  rw [← hQ]
  refine gq_loc [(0, .ref h_t_), (1, .int x1), (2, .int x2), (3, .int x3)] rfl ?_
  unfold F_X11_puts at hF
  refine gq_aload_n hC 0 dX11_puts_0 rfl rfl ?_
  obtain ⟨v_keptMany_1, v_kept_2, hc_, hF⟩ := ob2_e hF
  refine gq_callVv hC [0, 1, 2] [(h_t_, .inr (11, [.ref h_a, .ref h_fresh, .ref h_kept, .int v_keptMany_1, .int v_thrown, .ref h_buffer, .int v_buffered, .int v_size, .int v_at, .int v_behind, .int v_kind, .int v_wrong, .int v_wrongAt, .int v_errorAt, .long v_number, .ref h_worthFrom, .ref h_cutsFrom, .ref h_endFrom, .ref h_changes, .ref h_waysFrom, .int v_toCut, .int v_toLeave, .ref h_costAt, .ref h_places, .ref h_isCut, .ref h_written, .int v_writtenMany])), (h_a, .inl (cJ, 499, .inr (.inl v_a))), (h_kept, .inl (cJ, 3992, .inr (.inl v_kept_2)))] [] [] (k_X11_keeps l D cI cJ cZ cO z h_t_ h_a h_kept h_fresh h_buffer h_worthFrom h_cutsFrom h_endFrom h_changes h_waysFrom h_costAt h_places h_isCut h_written v_keptMany v_thrown v_buffered v_size v_at v_behind v_kind v_wrong v_wrongAt v_errorAt v_number v_toCut v_toLeave v_writtenMany v_a v_kept v_keptMany_1 v_kept_2 hc_) gX11_puts_X11_keeps rfl ⟨rfl, rfl⟩ hy_X11_keeps ⟨Nat.le_of_ble_eq_true rfl, Nat.le_of_ble_eq_true rfl⟩ rfl rfl rfl (q0 := 0) rfl rfl rfl (Nat.le_of_ble_eq_true rfl) rfl dX11_puts_1 rfl rfl ?_
  refine gq_aload_n hC 0 dX11_puts_4 rfl rfl ?_
  refine gq_iload_n hC 1 dX11_puts_5 rfl rfl ?_
  refine gq_iload_n hC 2 dX11_puts_6 rfl rfl ?_
  obtain ⟨r_3, hc_, hF⟩ := ob1_e hF
  refine gq_callVi hC [0, 1] [(h_t_, .inr (11, [.ref h_a, .ref h_fresh, .ref h_kept, .int v_keptMany_1, .int v_thrown, .ref h_buffer, .int v_buffered, .int v_size, .int v_at, .int v_behind, .int v_kind, .int v_wrong, .int v_wrongAt, .int v_errorAt, .long v_number, .ref h_worthFrom, .ref h_cutsFrom, .ref h_endFrom, .ref h_changes, .ref h_waysFrom, .int v_toCut, .int v_toLeave, .ref h_costAt, .ref h_places, .ref h_isCut, .ref h_written, .int v_writtenMany])), (h_a, .inl (cJ, 499, .inr (.inl v_a))), (h_kept, .inl (cJ, 3992, .inr (.inl v_kept_2)))] [.int x1, .int x2] [] (k_X11_of l D cI cJ cZ cO z h_t_ h_a h_fresh h_kept h_buffer h_worthFrom h_cutsFrom h_endFrom h_changes h_waysFrom h_costAt h_places h_isCut h_written x1 x2 v_keptMany_1 v_thrown v_buffered v_size v_at v_behind v_kind v_wrong v_wrongAt v_errorAt v_number v_toCut v_toLeave v_writtenMany v_a r_3 hc_) gX11_puts_X11_of rfl ⟨rfl, rfl⟩ hy_X11_of ⟨Nat.le_of_ble_eq_true rfl, Nat.le_of_ble_eq_true rfl⟩ rfl rfl rfl (q0 := 0) rfl rfl rfl (Nat.le_of_ble_eq_true rfl) rfl dX11_puts_7 rfl rfl ?_
  refine gq_istore hC [(4, .int r_3), (0, .ref h_t_), (1, .int x1), (2, .int x2), (3, .int x3)] dX11_puts_10 (by decide) rfl ?_
  refine gq_aload_n hC 1 dX11_puts_12 rfl rfl ?_
  refine gq_get hC (kf := 0) 0 hin_X11 rfl rfl (by decide) hw_9 rfl dX11_puts_13 ?_
  refine gq_bipush hC (10 : Int32) dX11_puts_16 (by decide) ?_
  refine gq_bipush hC (12 : Int32) dX11_puts_18 (by decide) ?_
  refine gq_iload_n hC 2 dX11_puts_20 rfl rfl ?_
  refine gq_imul hC dX11_puts_21 ?_
  refine gq_iadd hC dX11_puts_22 ?_
  refine gq_iload_n hC 3 dX11_puts_23 rfl rfl ?_
  refine gq_iadd hC dX11_puts_24 ?_
  refine gq_iload_n hC 4 dX11_puts_25 rfl rfl ?_
  refine gq_i2l hC dX11_puts_26 ?_
  obtain ⟨hi_4, hF⟩ := gi_e hF
  refine gq_last hC 1 1 [(h_t_, .inr (11, [.ref h_a, .ref h_fresh, .ref h_kept, .int v_keptMany_1, .int v_thrown, .ref h_buffer, .int v_buffered, .int v_size, .int v_at, .int v_behind, .int v_kind, .int v_wrong, .int v_wrongAt, .int v_errorAt, .long v_number, .ref h_worthFrom, .ref h_cutsFrom, .ref h_endFrom, .ref h_changes, .ref h_waysFrom, .int v_toCut, .int v_toLeave, .ref h_costAt, .ref h_places, .ref h_isCut, .ref h_written, .int v_writtenMany])), (h_a, .inl (cJ, 499, .inr (.inl (vp_updL v_a (((10 : Int32) + ((12 : Int32) * x1)) + x2).toNatClampNeg (x3.toInt64))))), (h_kept, .inl (cJ, 3992, .inr (.inl v_kept_2)))] rfl rfl hi_4 dX11_puts_27 rfl ?_
  refine gq_iload hC 0 dX11_puts_28 rfl ?_
  cases hF
  rw [hQ]
  exact gq_iret hC rfl dX11_puts_30
theorem hy_X11_setDuration : yX11_setDuration.cls = RX11 ∧ yX11_setDuration.cls ≠ "java/lang/invoke/MethodHandle" ∧ yX11_setDuration.cls ≠ "java/lang/invoke/VarHandle" ∧ (parseMethodDescriptor yX11_setDuration.desc).map (fun d => d.parameters.length) = some 2 := by decide +kernel
set_option maxRecDepth 20000 in
set_option maxHeartbeats 4000000 in
theorem k_X11_setDuration (l : Launch) (D : va_G) (cI cJ cZ cO : ClassId) (z : Nat → Nat)   (h_t_ : Nat) (h_a : Nat) (h_kept : Nat) (h_fresh : Nat) (h_buffer : Nat) (h_worthFrom : Nat) (h_cutsFrom : Nat) (h_endFrom : Nat) (h_changes : Nat) (h_waysFrom : Nat) (h_costAt : Nat) (h_places : Nat) (h_isCut : Nat) (h_written : Nat) (x1 : Int32) (x2 : Int32) (v_keptMany : Int32) (v_thrown : Int32) (v_buffered : Int32) (v_size : Int32) (v_at : Int32) (v_behind : Int32) (v_kind : Int32) (v_wrong : Int32) (v_wrongAt : Int32) (v_errorAt : Int32) (v_number : Int64) (v_toCut : Int32) (v_toLeave : Int32) (v_writtenMany : Int32) (v_a : Nat → Int64) (v_kept : Nat → Int64) (r_ : Int32) (w_keptMany : Int32) (w_thrown : Int32) (w_a : Nat → Int64) (w_kept : Nat → Int64) (hF : F_X11_setDuration x1 x2 v_keptMany v_thrown v_a v_kept = some (r_, w_keptMany, w_thrown, w_a, w_kept)) : Mi l yX11_setDuration wsX11_setDuration (rmD 2) D (gq_ty cI cJ cZ cO) z [.ref h_t_, .int x1, .int x2] [(h_t_, .inr (11, [.ref h_a, .ref h_fresh, .ref h_kept, .int v_keptMany, .int v_thrown, .ref h_buffer, .int v_buffered, .int v_size, .int v_at, .int v_behind, .int v_kind, .int v_wrong, .int v_wrongAt, .int v_errorAt, .long v_number, .ref h_worthFrom, .ref h_cutsFrom, .ref h_endFrom, .ref h_changes, .ref h_waysFrom, .int v_toCut, .int v_toLeave, .ref h_costAt, .ref h_places, .ref h_isCut, .ref h_written, .int v_writtenMany])), (h_a, .inl (cJ, 499, .inr (.inl v_a))), (h_kept, .inl (cJ, 3992, .inr (.inl v_kept)))] r_ [(h_t_, .inr (11, [.ref h_a, .ref h_fresh, .ref h_kept, .int w_keptMany, .int w_thrown, .ref h_buffer, .int v_buffered, .int v_size, .int v_at, .int v_behind, .int v_kind, .int v_wrong, .int v_wrongAt, .int v_errorAt, .long v_number, .ref h_worthFrom, .ref h_cutsFrom, .ref h_endFrom, .ref h_changes, .ref h_waysFrom, .int v_toCut, .int v_toLeave, .ref h_costAt, .ref h_places, .ref h_isCut, .ref h_written, .int v_writtenMany])), (h_a, .inl (cJ, 499, .inr (.inl w_a))), (h_kept, .inl (cJ, 3992, .inr (.inl w_kept)))] 0 0 := by
  refine Mi.of (cc := cX11_setDuration) (maxL := 3) (by decide) rfl (Nat.le_of_ble_eq_true rfl) ⟨Nat.le_refl 0, Nat.le_refl 0⟩ ?_
  intro p e s m args below meth c A hC ha
  have hin_X11 : ∀ w ∈ wsX110, w ∈ wsX11_setDuration := by decide +kernel
  have hw_79 : Cond.fieldLink RX11 79 (TX11 4).1 (TX11 4).2.1 (TX11 4).2.2.1 ∈ wsX11_setDuration := by decide +kernel
  obtain ⟨Q, hQ⟩ : ∃ Q, Q = gq_Qi below D A args s r_ [(h_t_, .inr (11, [.ref h_a, .ref h_fresh, .ref h_kept, .int w_keptMany, .int w_thrown, .ref h_buffer, .int v_buffered, .int v_size, .int v_at, .int v_behind, .int v_kind, .int v_wrong, .int v_wrongAt, .int v_errorAt, .long v_number, .ref h_worthFrom, .ref h_cutsFrom, .ref h_endFrom, .ref h_changes, .ref h_waysFrom, .int v_toCut, .int v_toLeave, .ref h_costAt, .ref h_places, .ref h_isCut, .ref h_written, .int v_writtenMany])), (h_a, .inl (cJ, 499, .inr (.inl w_a))), (h_kept, .inl (cJ, 3992, .inr (.inl w_kept)))] 0 0 := ⟨_, rfl⟩
  rw [← hQ]
  refine gq_loc [(0, .ref h_t_), (1, .int x1), (2, .int x2)] rfl ?_
  have jb30 : ∀ (st_1 : Int32) (v_keptMany_2 : Int32) (v_thrown_3 : Int32) (v_a_4 : Nat → Int64) (v_kept_5 : Nat → Int64), F_X11_setDuration_b30 x1 x2 st_1 v_keptMany_2 v_thrown_3 v_a_4 v_kept_5 = some (r_, w_keptMany, w_thrown, w_a, w_kept) → Gx p l e (rmD 2) s m args below meth c D A 3 Q 0 0 30 [(0, .ref h_t_), (1, .int x1), (2, .int x2)] [.int st_1, .ref h_t_] [(h_t_, .inr (11, [.ref h_a, .ref h_fresh, .ref h_kept, .int v_keptMany_2, .int v_thrown_3, .ref h_buffer, .int v_buffered, .int v_size, .int v_at, .int v_behind, .int v_kind, .int v_wrong, .int v_wrongAt, .int v_errorAt, .long v_number, .ref h_worthFrom, .ref h_cutsFrom, .ref h_endFrom, .ref h_changes, .ref h_waysFrom, .int v_toCut, .int v_toLeave, .ref h_costAt, .ref h_places, .ref h_isCut, .ref h_written, .int v_writtenMany])), (h_a, .inl (cJ, 499, .inr (.inl v_a_4))), (h_kept, .inl (cJ, 3992, .inr (.inl v_kept_5)))] := by
    intro st_1 v_keptMany_2 v_thrown_3 v_a_4 v_kept_5 hF
    unfold F_X11_setDuration_b30 at hF
    refine gq_put1 hC (kf := 4) 0 [(h_t_, .inr (11, [.ref h_a, .ref h_fresh, .ref h_kept, .int v_keptMany_2, .int st_1, .ref h_buffer, .int v_buffered, .int v_size, .int v_at, .int v_behind, .int v_kind, .int v_wrong, .int v_wrongAt, .int v_errorAt, .long v_number, .ref h_worthFrom, .ref h_cutsFrom, .ref h_endFrom, .ref h_changes, .ref h_waysFrom, .int v_toCut, .int v_toLeave, .ref h_costAt, .ref h_places, .ref h_isCut, .ref h_written, .int v_writtenMany])), (h_a, .inl (cJ, 499, .inr (.inl v_a_4))), (h_kept, .inl (cJ, 3992, .inr (.inl v_kept_5)))] tyX11 tyX11_ok nmX11 hin_X11 rfl rfl (by decide) hw_79 rfl rfl rfl (Nat.le_of_ble_eq_true rfl) dX11_setDuration_30 rfl ?_
    refine gq_aload_n hC 0 dX11_setDuration_33 rfl rfl ?_
    refine gq_get hC (kf := 4) 0 hin_X11 rfl rfl (by decide) hw_79 rfl dX11_setDuration_34 ?_
    refine gq_if_le hC 44 dX11_setDuration_37 (by decide) (fun hc_10 => ?_) (fun hc_10 => ?_)
    · have hF := (if_pos hc_10).symm.trans hF
      refine gq_aload_n hC 0 dX11_setDuration_44 rfl rfl ?_
      refine gq_iload_n hC 1 dX11_setDuration_45 rfl rfl ?_
      refine gq_iconst hC (0 : Int32) dX11_setDuration_46 (by decide) ?_
      refine gq_iload_n hC 2 dX11_setDuration_47 rfl rfl ?_
      obtain ⟨r_6, v_keptMany_7, v_a_8, v_kept_9, hc_, hF⟩ := ob4_e hF
      refine gq_callVi hC [0, 1, 2] [(h_t_, .inr (11, [.ref h_a, .ref h_fresh, .ref h_kept, .int v_keptMany_7, .int st_1, .ref h_buffer, .int v_buffered, .int v_size, .int v_at, .int v_behind, .int v_kind, .int v_wrong, .int v_wrongAt, .int v_errorAt, .long v_number, .ref h_worthFrom, .ref h_cutsFrom, .ref h_endFrom, .ref h_changes, .ref h_waysFrom, .int v_toCut, .int v_toLeave, .ref h_costAt, .ref h_places, .ref h_isCut, .ref h_written, .int v_writtenMany])), (h_a, .inl (cJ, 499, .inr (.inl v_a_8))), (h_kept, .inl (cJ, 3992, .inr (.inl v_kept_9)))] [.int x1, .int (0 : Int32), .int x2] [] (k_X11_puts l D cI cJ cZ cO z h_t_ h_a h_kept h_fresh h_buffer h_worthFrom h_cutsFrom h_endFrom h_changes h_waysFrom h_costAt h_places h_isCut h_written x1 (0 : Int32) x2 v_keptMany_2 st_1 v_buffered v_size v_at v_behind v_kind v_wrong v_wrongAt v_errorAt v_number v_toCut v_toLeave v_writtenMany v_a_4 v_kept_5 r_6 v_keptMany_7 v_a_8 v_kept_9 hc_) gX11_setDuration_X11_puts rfl ⟨rfl, rfl⟩ hy_X11_puts ⟨Nat.le_of_ble_eq_true rfl, Nat.le_of_ble_eq_true rfl⟩ rfl rfl rfl (q0 := 0) rfl rfl rfl (Nat.le_of_ble_eq_true rfl) rfl dX11_setDuration_48 rfl rfl ?_
      cases hF
      rw [hQ]
      exact gq_iret hC rfl dX11_setDuration_51
    · have hF := (if_neg hc_10).symm.trans hF
      refine gq_iconst hC (0 : Int32) dX11_setDuration_40 (by decide) ?_
      refine gq_goto hC 51 dX11_setDuration_41 (by decide) ?_
      cases hF
      rw [hQ]
      exact gq_iret hC rfl dX11_setDuration_51
  unfold F_X11_setDuration at hF
  refine gq_aload_n hC 0 dX11_setDuration_0 rfl rfl ?_
  refine gq_aload_n hC 0 dX11_setDuration_1 rfl rfl ?_
  refine gq_iload_n hC 1 dX11_setDuration_2 rfl rfl ?_
  obtain ⟨r_11, hc_, hF⟩ := ob1_e hF
  refine gq_callVi hC [0, 1] [(h_t_, .inr (11, [.ref h_a, .ref h_fresh, .ref h_kept, .int v_keptMany, .int v_thrown, .ref h_buffer, .int v_buffered, .int v_size, .int v_at, .int v_behind, .int v_kind, .int v_wrong, .int v_wrongAt, .int v_errorAt, .long v_number, .ref h_worthFrom, .ref h_cutsFrom, .ref h_endFrom, .ref h_changes, .ref h_waysFrom, .int v_toCut, .int v_toLeave, .ref h_costAt, .ref h_places, .ref h_isCut, .ref h_written, .int v_writtenMany])), (h_a, .inl (cJ, 499, .inr (.inl v_a))), (h_kept, .inl (cJ, 3992, .inr (.inl v_kept)))] [.int x1] [.ref h_t_] (k_X11_isSegment l D cI cJ cZ cO z h_t_ h_a h_fresh h_kept h_buffer h_worthFrom h_cutsFrom h_endFrom h_changes h_waysFrom h_costAt h_places h_isCut h_written x1 v_keptMany v_thrown v_buffered v_size v_at v_behind v_kind v_wrong v_wrongAt v_errorAt v_number v_toCut v_toLeave v_writtenMany v_a r_11 hc_) gX11_setDuration_X11_isSegment rfl ⟨rfl, rfl⟩ hy_X11_isSegment ⟨Nat.le_of_ble_eq_true rfl, Nat.le_of_ble_eq_true rfl⟩ rfl rfl rfl (q0 := 0) rfl rfl rfl (Nat.le_of_ble_eq_true rfl) rfl dX11_setDuration_3 rfl rfl ?_
  refine gq_if_ne hC 13 dX11_setDuration_6 (by decide) (fun hc_14 => ?_) (fun hc_14 => ?_)
  · have hF := (if_neg hc_14).symm.trans hF
    refine gq_iload_n hC 2 dX11_setDuration_13 rfl rfl ?_
    refine gq_i2l hC dX11_setDuration_14 ?_
    refine gq_lconst hC (1 : Int64) dX11_setDuration_15 (by decide) ?_
    refine gq_ldc2 hC (999 : Int64) dX11_setDuration_16 (by decide +kernel) ?_
    obtain ⟨r_12, hc_, hF⟩ := ob1_e hF
    refine gq_callSi hC [] [(h_t_, .inr (11, [.ref h_a, .ref h_fresh, .ref h_kept, .int v_keptMany, .int v_thrown, .ref h_buffer, .int v_buffered, .int v_size, .int v_at, .int v_behind, .int v_kind, .int v_wrong, .int v_wrongAt, .int v_errorAt, .long v_number, .ref h_worthFrom, .ref h_cutsFrom, .ref h_endFrom, .ref h_changes, .ref h_waysFrom, .int v_toCut, .int v_toLeave, .ref h_costAt, .ref h_places, .ref h_isCut, .ref h_written, .int v_writtenMany])), (h_a, .inl (cJ, 499, .inr (.inl v_a))), (h_kept, .inl (cJ, 3992, .inr (.inl v_kept)))] [.long (x2.toInt64), .long (1 : Int64), .long (999 : Int64)] [.ref h_t_] (k_X11_isIn l D cI cJ cZ cO z  (x2.toInt64) (1 : Int64) (999 : Int64) r_12 hc_) gX11_setDuration_X11_isIn rfl ⟨rfl, rfl⟩ hy_X11_isIn rfl ⟨Nat.le_of_ble_eq_true rfl, Nat.le_of_ble_eq_true rfl⟩ rfl rfl rfl (Nat.le_of_ble_eq_true rfl) rfl dX11_setDuration_19 rfl rfl ?_
    refine gq_if_eq hC 29 dX11_setDuration_22 (by decide) (fun hc_13 => ?_) (fun hc_13 => ?_)
    · have hF := (if_pos hc_13).symm.trans hF
      refine gq_iconst hC (2 : Int32) dX11_setDuration_29 (by decide) ?_
      exact jb30 (2 : Int32) v_keptMany v_thrown v_a v_kept hF
    · have hF := (if_neg hc_13).symm.trans hF
      refine gq_iconst hC (0 : Int32) dX11_setDuration_25 (by decide) ?_
      refine gq_goto hC 30 dX11_setDuration_26 (by decide) ?_
      exact jb30 (0 : Int32) v_keptMany v_thrown v_a v_kept hF
  · have hF := (if_pos hc_14).symm.trans hF
    refine gq_iconst hC (1 : Int32) dX11_setDuration_9 (by decide) ?_
    refine gq_goto hC 30 dX11_setDuration_10 (by decide) ?_
    exact jb30 (1 : Int32) v_keptMany v_thrown v_a v_kept hF
theorem hy_X11_setPause : yX11_setPause.cls = RX11 ∧ yX11_setPause.cls ≠ "java/lang/invoke/MethodHandle" ∧ yX11_setPause.cls ≠ "java/lang/invoke/VarHandle" ∧ (parseMethodDescriptor yX11_setPause.desc).map (fun d => d.parameters.length) = some 2 := by decide +kernel
set_option maxRecDepth 20000 in
set_option maxHeartbeats 4000000 in
theorem k_X11_setPause (l : Launch) (D : va_G) (cI cJ cZ cO : ClassId) (z : Nat → Nat)   (h_t_ : Nat) (h_a : Nat) (h_kept : Nat) (h_fresh : Nat) (h_buffer : Nat) (h_worthFrom : Nat) (h_cutsFrom : Nat) (h_endFrom : Nat) (h_changes : Nat) (h_waysFrom : Nat) (h_costAt : Nat) (h_places : Nat) (h_isCut : Nat) (h_written : Nat) (x1 : Int32) (x2 : Int32) (v_keptMany : Int32) (v_thrown : Int32) (v_buffered : Int32) (v_size : Int32) (v_at : Int32) (v_behind : Int32) (v_kind : Int32) (v_wrong : Int32) (v_wrongAt : Int32) (v_errorAt : Int32) (v_number : Int64) (v_toCut : Int32) (v_toLeave : Int32) (v_writtenMany : Int32) (v_a : Nat → Int64) (v_kept : Nat → Int64) (r_ : Int32) (w_keptMany : Int32) (w_thrown : Int32) (w_a : Nat → Int64) (w_kept : Nat → Int64) (hF : F_X11_setPause x1 x2 v_keptMany v_thrown v_a v_kept = some (r_, w_keptMany, w_thrown, w_a, w_kept)) : Mi l yX11_setPause wsX11_setPause (rmD 2) D (gq_ty cI cJ cZ cO) z [.ref h_t_, .int x1, .int x2] [(h_t_, .inr (11, [.ref h_a, .ref h_fresh, .ref h_kept, .int v_keptMany, .int v_thrown, .ref h_buffer, .int v_buffered, .int v_size, .int v_at, .int v_behind, .int v_kind, .int v_wrong, .int v_wrongAt, .int v_errorAt, .long v_number, .ref h_worthFrom, .ref h_cutsFrom, .ref h_endFrom, .ref h_changes, .ref h_waysFrom, .int v_toCut, .int v_toLeave, .ref h_costAt, .ref h_places, .ref h_isCut, .ref h_written, .int v_writtenMany])), (h_a, .inl (cJ, 499, .inr (.inl v_a))), (h_kept, .inl (cJ, 3992, .inr (.inl v_kept)))] r_ [(h_t_, .inr (11, [.ref h_a, .ref h_fresh, .ref h_kept, .int w_keptMany, .int w_thrown, .ref h_buffer, .int v_buffered, .int v_size, .int v_at, .int v_behind, .int v_kind, .int v_wrong, .int v_wrongAt, .int v_errorAt, .long v_number, .ref h_worthFrom, .ref h_cutsFrom, .ref h_endFrom, .ref h_changes, .ref h_waysFrom, .int v_toCut, .int v_toLeave, .ref h_costAt, .ref h_places, .ref h_isCut, .ref h_written, .int v_writtenMany])), (h_a, .inl (cJ, 499, .inr (.inl w_a))), (h_kept, .inl (cJ, 3992, .inr (.inl w_kept)))] 0 0 := by
  refine Mi.of (cc := cX11_setPause) (maxL := 3) (by decide) rfl (Nat.le_of_ble_eq_true rfl) ⟨Nat.le_refl 0, Nat.le_refl 0⟩ ?_
  intro p e s m args below meth c A hC ha
  have hin_X11 : ∀ w ∈ wsX110, w ∈ wsX11_setPause := by decide +kernel
  have hw_79 : Cond.fieldLink RX11 79 (TX11 4).1 (TX11 4).2.1 (TX11 4).2.2.1 ∈ wsX11_setPause := by decide +kernel
  obtain ⟨Q, hQ⟩ : ∃ Q, Q = gq_Qi below D A args s r_ [(h_t_, .inr (11, [.ref h_a, .ref h_fresh, .ref h_kept, .int w_keptMany, .int w_thrown, .ref h_buffer, .int v_buffered, .int v_size, .int v_at, .int v_behind, .int v_kind, .int v_wrong, .int v_wrongAt, .int v_errorAt, .long v_number, .ref h_worthFrom, .ref h_cutsFrom, .ref h_endFrom, .ref h_changes, .ref h_waysFrom, .int v_toCut, .int v_toLeave, .ref h_costAt, .ref h_places, .ref h_isCut, .ref h_written, .int v_writtenMany])), (h_a, .inl (cJ, 499, .inr (.inl w_a))), (h_kept, .inl (cJ, 3992, .inr (.inl w_kept)))] 0 0 := ⟨_, rfl⟩
  rw [← hQ]
  refine gq_loc [(0, .ref h_t_), (1, .int x1), (2, .int x2)] rfl ?_
  have jb30 : ∀ (st_1 : Int32) (v_keptMany_2 : Int32) (v_thrown_3 : Int32) (v_a_4 : Nat → Int64) (v_kept_5 : Nat → Int64), F_X11_setPause_b30 x1 x2 st_1 v_keptMany_2 v_thrown_3 v_a_4 v_kept_5 = some (r_, w_keptMany, w_thrown, w_a, w_kept) → Gx p l e (rmD 2) s m args below meth c D A 3 Q 0 0 30 [(0, .ref h_t_), (1, .int x1), (2, .int x2)] [.int st_1, .ref h_t_] [(h_t_, .inr (11, [.ref h_a, .ref h_fresh, .ref h_kept, .int v_keptMany_2, .int v_thrown_3, .ref h_buffer, .int v_buffered, .int v_size, .int v_at, .int v_behind, .int v_kind, .int v_wrong, .int v_wrongAt, .int v_errorAt, .long v_number, .ref h_worthFrom, .ref h_cutsFrom, .ref h_endFrom, .ref h_changes, .ref h_waysFrom, .int v_toCut, .int v_toLeave, .ref h_costAt, .ref h_places, .ref h_isCut, .ref h_written, .int v_writtenMany])), (h_a, .inl (cJ, 499, .inr (.inl v_a_4))), (h_kept, .inl (cJ, 3992, .inr (.inl v_kept_5)))] := by
    intro st_1 v_keptMany_2 v_thrown_3 v_a_4 v_kept_5 hF
    unfold F_X11_setPause_b30 at hF
    refine gq_put1 hC (kf := 4) 0 [(h_t_, .inr (11, [.ref h_a, .ref h_fresh, .ref h_kept, .int v_keptMany_2, .int st_1, .ref h_buffer, .int v_buffered, .int v_size, .int v_at, .int v_behind, .int v_kind, .int v_wrong, .int v_wrongAt, .int v_errorAt, .long v_number, .ref h_worthFrom, .ref h_cutsFrom, .ref h_endFrom, .ref h_changes, .ref h_waysFrom, .int v_toCut, .int v_toLeave, .ref h_costAt, .ref h_places, .ref h_isCut, .ref h_written, .int v_writtenMany])), (h_a, .inl (cJ, 499, .inr (.inl v_a_4))), (h_kept, .inl (cJ, 3992, .inr (.inl v_kept_5)))] tyX11 tyX11_ok nmX11 hin_X11 rfl rfl (by decide) hw_79 rfl rfl rfl (Nat.le_of_ble_eq_true rfl) dX11_setPause_30 rfl ?_
    refine gq_aload_n hC 0 dX11_setPause_33 rfl rfl ?_
    refine gq_get hC (kf := 4) 0 hin_X11 rfl rfl (by decide) hw_79 rfl dX11_setPause_34 ?_
    refine gq_if_le hC 44 dX11_setPause_37 (by decide) (fun hc_10 => ?_) (fun hc_10 => ?_)
    · have hF := (if_pos hc_10).symm.trans hF
      refine gq_aload_n hC 0 dX11_setPause_44 rfl rfl ?_
      refine gq_iload_n hC 1 dX11_setPause_45 rfl rfl ?_
      refine gq_iconst hC (1 : Int32) dX11_setPause_46 (by decide) ?_
      refine gq_iload_n hC 2 dX11_setPause_47 rfl rfl ?_
      obtain ⟨r_6, v_keptMany_7, v_a_8, v_kept_9, hc_, hF⟩ := ob4_e hF
      refine gq_callVi hC [0, 1, 2] [(h_t_, .inr (11, [.ref h_a, .ref h_fresh, .ref h_kept, .int v_keptMany_7, .int st_1, .ref h_buffer, .int v_buffered, .int v_size, .int v_at, .int v_behind, .int v_kind, .int v_wrong, .int v_wrongAt, .int v_errorAt, .long v_number, .ref h_worthFrom, .ref h_cutsFrom, .ref h_endFrom, .ref h_changes, .ref h_waysFrom, .int v_toCut, .int v_toLeave, .ref h_costAt, .ref h_places, .ref h_isCut, .ref h_written, .int v_writtenMany])), (h_a, .inl (cJ, 499, .inr (.inl v_a_8))), (h_kept, .inl (cJ, 3992, .inr (.inl v_kept_9)))] [.int x1, .int (1 : Int32), .int x2] [] (k_X11_puts l D cI cJ cZ cO z h_t_ h_a h_kept h_fresh h_buffer h_worthFrom h_cutsFrom h_endFrom h_changes h_waysFrom h_costAt h_places h_isCut h_written x1 (1 : Int32) x2 v_keptMany_2 st_1 v_buffered v_size v_at v_behind v_kind v_wrong v_wrongAt v_errorAt v_number v_toCut v_toLeave v_writtenMany v_a_4 v_kept_5 r_6 v_keptMany_7 v_a_8 v_kept_9 hc_) gX11_setPause_X11_puts rfl ⟨rfl, rfl⟩ hy_X11_puts ⟨Nat.le_of_ble_eq_true rfl, Nat.le_of_ble_eq_true rfl⟩ rfl rfl rfl (q0 := 0) rfl rfl rfl (Nat.le_of_ble_eq_true rfl) rfl dX11_setPause_48 rfl rfl ?_
      cases hF
      rw [hQ]
      exact gq_iret hC rfl dX11_setPause_51
    · have hF := (if_neg hc_10).symm.trans hF
      refine gq_iconst hC (0 : Int32) dX11_setPause_40 (by decide) ?_
      refine gq_goto hC 51 dX11_setPause_41 (by decide) ?_
      cases hF
      rw [hQ]
      exact gq_iret hC rfl dX11_setPause_51
  unfold F_X11_setPause at hF
  refine gq_aload_n hC 0 dX11_setPause_0 rfl rfl ?_
  refine gq_aload_n hC 0 dX11_setPause_1 rfl rfl ?_
  refine gq_iload_n hC 1 dX11_setPause_2 rfl rfl ?_
  obtain ⟨r_11, hc_, hF⟩ := ob1_e hF
  refine gq_callVi hC [0, 1] [(h_t_, .inr (11, [.ref h_a, .ref h_fresh, .ref h_kept, .int v_keptMany, .int v_thrown, .ref h_buffer, .int v_buffered, .int v_size, .int v_at, .int v_behind, .int v_kind, .int v_wrong, .int v_wrongAt, .int v_errorAt, .long v_number, .ref h_worthFrom, .ref h_cutsFrom, .ref h_endFrom, .ref h_changes, .ref h_waysFrom, .int v_toCut, .int v_toLeave, .ref h_costAt, .ref h_places, .ref h_isCut, .ref h_written, .int v_writtenMany])), (h_a, .inl (cJ, 499, .inr (.inl v_a))), (h_kept, .inl (cJ, 3992, .inr (.inl v_kept)))] [.int x1] [.ref h_t_] (k_X11_isSegment l D cI cJ cZ cO z h_t_ h_a h_fresh h_kept h_buffer h_worthFrom h_cutsFrom h_endFrom h_changes h_waysFrom h_costAt h_places h_isCut h_written x1 v_keptMany v_thrown v_buffered v_size v_at v_behind v_kind v_wrong v_wrongAt v_errorAt v_number v_toCut v_toLeave v_writtenMany v_a r_11 hc_) gX11_setPause_X11_isSegment rfl ⟨rfl, rfl⟩ hy_X11_isSegment ⟨Nat.le_of_ble_eq_true rfl, Nat.le_of_ble_eq_true rfl⟩ rfl rfl rfl (q0 := 0) rfl rfl rfl (Nat.le_of_ble_eq_true rfl) rfl dX11_setPause_3 rfl rfl ?_
  refine gq_if_ne hC 13 dX11_setPause_6 (by decide) (fun hc_14 => ?_) (fun hc_14 => ?_)
  · have hF := (if_neg hc_14).symm.trans hF
    refine gq_iload_n hC 2 dX11_setPause_13 rfl rfl ?_
    refine gq_i2l hC dX11_setPause_14 ?_
    refine gq_lconst hC (0 : Int64) dX11_setPause_15 (by decide) ?_
    refine gq_ldc2 hC (99 : Int64) dX11_setPause_16 (by decide +kernel) ?_
    obtain ⟨r_12, hc_, hF⟩ := ob1_e hF
    refine gq_callSi hC [] [(h_t_, .inr (11, [.ref h_a, .ref h_fresh, .ref h_kept, .int v_keptMany, .int v_thrown, .ref h_buffer, .int v_buffered, .int v_size, .int v_at, .int v_behind, .int v_kind, .int v_wrong, .int v_wrongAt, .int v_errorAt, .long v_number, .ref h_worthFrom, .ref h_cutsFrom, .ref h_endFrom, .ref h_changes, .ref h_waysFrom, .int v_toCut, .int v_toLeave, .ref h_costAt, .ref h_places, .ref h_isCut, .ref h_written, .int v_writtenMany])), (h_a, .inl (cJ, 499, .inr (.inl v_a))), (h_kept, .inl (cJ, 3992, .inr (.inl v_kept)))] [.long (x2.toInt64), .long (0 : Int64), .long (99 : Int64)] [.ref h_t_] (k_X11_isIn l D cI cJ cZ cO z  (x2.toInt64) (0 : Int64) (99 : Int64) r_12 hc_) gX11_setPause_X11_isIn rfl ⟨rfl, rfl⟩ hy_X11_isIn rfl ⟨Nat.le_of_ble_eq_true rfl, Nat.le_of_ble_eq_true rfl⟩ rfl rfl rfl (Nat.le_of_ble_eq_true rfl) rfl dX11_setPause_19 rfl rfl ?_
    refine gq_if_eq hC 29 dX11_setPause_22 (by decide) (fun hc_13 => ?_) (fun hc_13 => ?_)
    · have hF := (if_pos hc_13).symm.trans hF
      refine gq_iconst hC (2 : Int32) dX11_setPause_29 (by decide) ?_
      exact jb30 (2 : Int32) v_keptMany v_thrown v_a v_kept hF
    · have hF := (if_neg hc_13).symm.trans hF
      refine gq_iconst hC (0 : Int32) dX11_setPause_25 (by decide) ?_
      refine gq_goto hC 30 dX11_setPause_26 (by decide) ?_
      exact jb30 (0 : Int32) v_keptMany v_thrown v_a v_kept hF
  · have hF := (if_pos hc_14).symm.trans hF
    refine gq_iconst hC (1 : Int32) dX11_setPause_9 (by decide) ?_
    refine gq_goto hC 30 dX11_setPause_10 (by decide) ?_
    exact jb30 (1 : Int32) v_keptMany v_thrown v_a v_kept hF
theorem hy_X11_addWord : yX11_addWord.cls = RX11 ∧ yX11_addWord.cls ≠ "java/lang/invoke/MethodHandle" ∧ yX11_addWord.cls ≠ "java/lang/invoke/VarHandle" ∧ (parseMethodDescriptor yX11_addWord.desc).map (fun d => d.parameters.length) = some 2 := by decide +kernel
set_option maxRecDepth 20000 in
set_option maxHeartbeats 4000000 in
theorem k_X11_addWord (l : Launch) (D : va_G) (cI cJ cZ cO : ClassId) (z : Nat → Nat)   (h_t_ : Nat) (h_a : Nat) (h_kept : Nat) (h_fresh : Nat) (h_buffer : Nat) (h_worthFrom : Nat) (h_cutsFrom : Nat) (h_endFrom : Nat) (h_changes : Nat) (h_waysFrom : Nat) (h_costAt : Nat) (h_places : Nat) (h_isCut : Nat) (h_written : Nat) (x1 : Int32) (x2 : Int32) (v_keptMany : Int32) (v_thrown : Int32) (v_buffered : Int32) (v_size : Int32) (v_at : Int32) (v_behind : Int32) (v_kind : Int32) (v_wrong : Int32) (v_wrongAt : Int32) (v_errorAt : Int32) (v_number : Int64) (v_toCut : Int32) (v_toLeave : Int32) (v_writtenMany : Int32) (v_a : Nat → Int64) (v_kept : Nat → Int64) (r_ : Int32) (w_keptMany : Int32) (w_thrown : Int32) (w_a : Nat → Int64) (w_kept : Nat → Int64) (hF : F_X11_addWord x1 x2 v_keptMany v_thrown v_a v_kept = some (r_, w_keptMany, w_thrown, w_a, w_kept)) : Mi l yX11_addWord wsX11_addWord (rmD 2) D (gq_ty cI cJ cZ cO) z [.ref h_t_, .int x1, .int x2] [(h_t_, .inr (11, [.ref h_a, .ref h_fresh, .ref h_kept, .int v_keptMany, .int v_thrown, .ref h_buffer, .int v_buffered, .int v_size, .int v_at, .int v_behind, .int v_kind, .int v_wrong, .int v_wrongAt, .int v_errorAt, .long v_number, .ref h_worthFrom, .ref h_cutsFrom, .ref h_endFrom, .ref h_changes, .ref h_waysFrom, .int v_toCut, .int v_toLeave, .ref h_costAt, .ref h_places, .ref h_isCut, .ref h_written, .int v_writtenMany])), (h_a, .inl (cJ, 499, .inr (.inl v_a))), (h_kept, .inl (cJ, 3992, .inr (.inl v_kept)))] r_ [(h_t_, .inr (11, [.ref h_a, .ref h_fresh, .ref h_kept, .int w_keptMany, .int w_thrown, .ref h_buffer, .int v_buffered, .int v_size, .int v_at, .int v_behind, .int v_kind, .int v_wrong, .int v_wrongAt, .int v_errorAt, .long v_number, .ref h_worthFrom, .ref h_cutsFrom, .ref h_endFrom, .ref h_changes, .ref h_waysFrom, .int v_toCut, .int v_toLeave, .ref h_costAt, .ref h_places, .ref h_isCut, .ref h_written, .int v_writtenMany])), (h_a, .inl (cJ, 499, .inr (.inl w_a))), (h_kept, .inl (cJ, 3992, .inr (.inl w_kept)))] 0 0 := by
  refine Mi.of (cc := cX11_addWord) (maxL := 5) (by decide) rfl (Nat.le_of_ble_eq_true rfl) ⟨Nat.le_refl 0, Nat.le_refl 0⟩ ?_
  intro p e s m args below meth c A hC ha
  have hin_X11 : ∀ w ∈ wsX110, w ∈ wsX11_addWord := by decide +kernel
  have hw_9 : Cond.fieldLink RX11 9 (TX11 0).1 (TX11 0).2.1 (TX11 0).2.2.1 ∈ wsX11_addWord := by decide +kernel
  have hw_79 : Cond.fieldLink RX11 79 (TX11 4).1 (TX11 4).2.1 (TX11 4).2.2.1 ∈ wsX11_addWord := by decide +kernel
  obtain ⟨Q, hQ⟩ : ∃ Q, Q = gq_Qi below D A args s r_ [(h_t_, .inr (11, [.ref h_a, .ref h_fresh, .ref h_kept, .int w_keptMany, .int w_thrown, .ref h_buffer, .int v_buffered, .int v_size, .int v_at, .int v_behind, .int v_kind, .int v_wrong, .int v_wrongAt, .int v_errorAt, .long v_number, .ref h_worthFrom, .ref h_cutsFrom, .ref h_endFrom, .ref h_changes, .ref h_waysFrom, .int v_toCut, .int v_toLeave, .ref h_costAt, .ref h_places, .ref h_isCut, .ref h_written, .int v_writtenMany])), (h_a, .inl (cJ, 499, .inr (.inl w_a))), (h_kept, .inl (cJ, 3992, .inr (.inl w_kept)))] 0 0 := ⟨_, rfl⟩
  rw [← hQ]
  refine gq_loc [(0, .ref h_t_), (1, .int x1), (2, .int x2)] rfl ?_
  have jb37 : ∀ (st_1 : Int32) (v_keptMany_2 : Int32) (v_thrown_3 : Int32) (v_a_4 : Nat → Int64) (v_kept_5 : Nat → Int64), F_X11_addWord_b37 x1 x2 st_1 v_keptMany_2 v_thrown_3 v_a_4 v_kept_5 = some (r_, w_keptMany, w_thrown, w_a, w_kept) → Gx p l e (rmD 2) s m args below meth c D A 5 Q 0 0 37 [(0, .ref h_t_), (1, .int x1), (2, .int x2)] [.int st_1, .ref h_t_] [(h_t_, .inr (11, [.ref h_a, .ref h_fresh, .ref h_kept, .int v_keptMany_2, .int v_thrown_3, .ref h_buffer, .int v_buffered, .int v_size, .int v_at, .int v_behind, .int v_kind, .int v_wrong, .int v_wrongAt, .int v_errorAt, .long v_number, .ref h_worthFrom, .ref h_cutsFrom, .ref h_endFrom, .ref h_changes, .ref h_waysFrom, .int v_toCut, .int v_toLeave, .ref h_costAt, .ref h_places, .ref h_isCut, .ref h_written, .int v_writtenMany])), (h_a, .inl (cJ, 499, .inr (.inl v_a_4))), (h_kept, .inl (cJ, 3992, .inr (.inl v_kept_5)))] := by
    intro st_1 v_keptMany_2 v_thrown_3 v_a_4 v_kept_5 hF
    unfold F_X11_addWord_b37 at hF
    refine gq_put1 hC (kf := 4) 0 [(h_t_, .inr (11, [.ref h_a, .ref h_fresh, .ref h_kept, .int v_keptMany_2, .int st_1, .ref h_buffer, .int v_buffered, .int v_size, .int v_at, .int v_behind, .int v_kind, .int v_wrong, .int v_wrongAt, .int v_errorAt, .long v_number, .ref h_worthFrom, .ref h_cutsFrom, .ref h_endFrom, .ref h_changes, .ref h_waysFrom, .int v_toCut, .int v_toLeave, .ref h_costAt, .ref h_places, .ref h_isCut, .ref h_written, .int v_writtenMany])), (h_a, .inl (cJ, 499, .inr (.inl v_a_4))), (h_kept, .inl (cJ, 3992, .inr (.inl v_kept_5)))] tyX11 tyX11_ok nmX11 hin_X11 rfl rfl (by decide) hw_79 rfl rfl rfl (Nat.le_of_ble_eq_true rfl) dX11_addWord_37 rfl ?_
    refine gq_aload_n hC 0 dX11_addWord_40 rfl rfl ?_
    refine gq_get hC (kf := 4) 0 hin_X11 rfl rfl (by decide) hw_79 rfl dX11_addWord_41 ?_
    refine gq_if_le hC 49 dX11_addWord_44 (by decide) (fun hc_12 => ?_) (fun hc_12 => ?_)
    · have hF := (if_pos hc_12).symm.trans hF
      refine gq_aload_n hC 0 dX11_addWord_49 rfl rfl ?_
      refine gq_iload_n hC 1 dX11_addWord_50 rfl rfl ?_
      refine gq_iconst hC (2 : Int32) dX11_addWord_51 (by decide) ?_
      obtain ⟨r_6, hc_, hF⟩ := ob1_e hF
      refine gq_callVi hC [0, 1] [(h_t_, .inr (11, [.ref h_a, .ref h_fresh, .ref h_kept, .int v_keptMany_2, .int st_1, .ref h_buffer, .int v_buffered, .int v_size, .int v_at, .int v_behind, .int v_kind, .int v_wrong, .int v_wrongAt, .int v_errorAt, .long v_number, .ref h_worthFrom, .ref h_cutsFrom, .ref h_endFrom, .ref h_changes, .ref h_waysFrom, .int v_toCut, .int v_toLeave, .ref h_costAt, .ref h_places, .ref h_isCut, .ref h_written, .int v_writtenMany])), (h_a, .inl (cJ, 499, .inr (.inl v_a_4))), (h_kept, .inl (cJ, 3992, .inr (.inl v_kept_5)))] [.int x1, .int (2 : Int32)] [] (k_X11_of l D cI cJ cZ cO z h_t_ h_a h_fresh h_kept h_buffer h_worthFrom h_cutsFrom h_endFrom h_changes h_waysFrom h_costAt h_places h_isCut h_written x1 (2 : Int32) v_keptMany_2 st_1 v_buffered v_size v_at v_behind v_kind v_wrong v_wrongAt v_errorAt v_number v_toCut v_toLeave v_writtenMany v_a_4 r_6 hc_) gX11_addWord_X11_of rfl ⟨rfl, rfl⟩ hy_X11_of ⟨Nat.le_of_ble_eq_true rfl, Nat.le_of_ble_eq_true rfl⟩ rfl rfl rfl (q0 := 0) rfl rfl rfl (Nat.le_of_ble_eq_true rfl) rfl dX11_addWord_52 rfl rfl ?_
      refine gq_istore_n hC [(3, .int r_6), (0, .ref h_t_), (1, .int x1), (2, .int x2)] dX11_addWord_55 rfl (by decide) rfl ?_
      refine gq_aload_n hC 1 dX11_addWord_56 rfl rfl ?_
      refine gq_iload_n hC 2 dX11_addWord_57 rfl rfl ?_
      refine gq_iconst hC (3 : Int32) dX11_addWord_58 (by decide) ?_
      refine gq_iload_n hC 0 dX11_addWord_59 rfl rfl ?_
      refine gq_iadd hC dX11_addWord_60 ?_
      refine gq_iload_n hC 3 dX11_addWord_61 rfl rfl ?_
      obtain ⟨r_7, v_keptMany_8, v_a_9, v_kept_10, hc_, hF⟩ := ob4_e hF
      refine gq_callVi hC [0, 1, 2] [(h_t_, .inr (11, [.ref h_a, .ref h_fresh, .ref h_kept, .int v_keptMany_8, .int st_1, .ref h_buffer, .int v_buffered, .int v_size, .int v_at, .int v_behind, .int v_kind, .int v_wrong, .int v_wrongAt, .int v_errorAt, .long v_number, .ref h_worthFrom, .ref h_cutsFrom, .ref h_endFrom, .ref h_changes, .ref h_waysFrom, .int v_toCut, .int v_toLeave, .ref h_costAt, .ref h_places, .ref h_isCut, .ref h_written, .int v_writtenMany])), (h_a, .inl (cJ, 499, .inr (.inl v_a_9))), (h_kept, .inl (cJ, 3992, .inr (.inl v_kept_10)))] [.int x1, .int ((3 : Int32) + r_6), .int x2] [] (k_X11_puts l D cI cJ cZ cO z h_t_ h_a h_kept h_fresh h_buffer h_worthFrom h_cutsFrom h_endFrom h_changes h_waysFrom h_costAt h_places h_isCut h_written x1 ((3 : Int32) + r_6) x2 v_keptMany_2 st_1 v_buffered v_size v_at v_behind v_kind v_wrong v_wrongAt v_errorAt v_number v_toCut v_toLeave v_writtenMany v_a_4 v_kept_5 r_7 v_keptMany_8 v_a_9 v_kept_10 hc_) gX11_addWord_X11_puts rfl ⟨rfl, rfl⟩ hy_X11_puts ⟨Nat.le_of_ble_eq_true rfl, Nat.le_of_ble_eq_true rfl⟩ rfl rfl rfl (q0 := 0) rfl rfl rfl (Nat.le_of_ble_eq_true rfl) rfl dX11_addWord_62 rfl rfl ?_
      refine gq_istore hC [(4, .int r_7), (3, .int r_6), (0, .ref h_t_), (1, .int x1), (2, .int x2)] dX11_addWord_65 (by decide) rfl ?_
      refine gq_aload_n hC 2 dX11_addWord_67 rfl rfl ?_
      refine gq_get hC (kf := 0) 0 hin_X11 rfl rfl (by decide) hw_9 rfl dX11_addWord_68 ?_
      refine gq_bipush hC (10 : Int32) dX11_addWord_71 (by decide) ?_
      refine gq_bipush hC (12 : Int32) dX11_addWord_73 (by decide) ?_
      refine gq_iload_n hC 3 dX11_addWord_75 rfl rfl ?_
      refine gq_imul hC dX11_addWord_76 ?_
      refine gq_iadd hC dX11_addWord_77 ?_
      refine gq_iconst hC (2 : Int32) dX11_addWord_78 (by decide) ?_
      refine gq_iadd hC dX11_addWord_79 ?_
      refine gq_iload_n hC 1 dX11_addWord_80 rfl rfl ?_
      refine gq_iconst hC (1 : Int32) dX11_addWord_81 (by decide) ?_
      refine gq_iadd hC dX11_addWord_82 ?_
      refine gq_i2l hC dX11_addWord_83 ?_
      obtain ⟨hi_11, hF⟩ := gi_e hF
      refine gq_last hC 1 1 [(h_t_, .inr (11, [.ref h_a, .ref h_fresh, .ref h_kept, .int v_keptMany_8, .int st_1, .ref h_buffer, .int v_buffered, .int v_size, .int v_at, .int v_behind, .int v_kind, .int v_wrong, .int v_wrongAt, .int v_errorAt, .long v_number, .ref h_worthFrom, .ref h_cutsFrom, .ref h_endFrom, .ref h_changes, .ref h_waysFrom, .int v_toCut, .int v_toLeave, .ref h_costAt, .ref h_places, .ref h_isCut, .ref h_written, .int v_writtenMany])), (h_a, .inl (cJ, 499, .inr (.inl (vp_updL v_a_9 (((10 : Int32) + ((12 : Int32) * x1)) + (2 : Int32)).toNatClampNeg ((r_6 + (1 : Int32)).toInt64))))), (h_kept, .inl (cJ, 3992, .inr (.inl v_kept_10)))] rfl rfl hi_11 dX11_addWord_84 rfl ?_
      refine gq_iload_n hC 1 dX11_addWord_85 rfl rfl ?_
      refine gq_iconst hC (1 : Int32) dX11_addWord_86 (by decide) ?_
      refine gq_iadd hC dX11_addWord_87 ?_
      cases hF
      rw [hQ]
      exact gq_iret hC rfl dX11_addWord_88
    · have hF := (if_neg hc_12).symm.trans hF
      refine gq_iconst hC (0 : Int32) dX11_addWord_47 (by decide) ?_
      cases hF
      rw [hQ]
      exact gq_iret hC rfl dX11_addWord_48
  have jb17 : ∀ (v_keptMany_13 : Int32) (v_thrown_14 : Int32) (v_a_15 : Nat → Int64) (v_kept_16 : Nat → Int64), F_X11_addWord_b17 x1 x2 v_keptMany_13 v_thrown_14 v_a_15 v_kept_16 = some (r_, w_keptMany, w_thrown, w_a, w_kept) → Gx p l e (rmD 2) s m args below meth c D A 5 Q 0 0 17 [(0, .ref h_t_), (1, .int x1), (2, .int x2)] [.ref h_t_] [(h_t_, .inr (11, [.ref h_a, .ref h_fresh, .ref h_kept, .int v_keptMany_13, .int v_thrown_14, .ref h_buffer, .int v_buffered, .int v_size, .int v_at, .int v_behind, .int v_kind, .int v_wrong, .int v_wrongAt, .int v_errorAt, .long v_number, .ref h_worthFrom, .ref h_cutsFrom, .ref h_endFrom, .ref h_changes, .ref h_waysFrom, .int v_toCut, .int v_toLeave, .ref h_costAt, .ref h_places, .ref h_isCut, .ref h_written, .int v_writtenMany])), (h_a, .inl (cJ, 499, .inr (.inl v_a_15))), (h_kept, .inl (cJ, 3992, .inr (.inl v_kept_16)))] := by
    intro v_keptMany_13 v_thrown_14 v_a_15 v_kept_16 hF
    unfold F_X11_addWord_b17 at hF
    refine gq_iconst hC (1 : Int32) dX11_addWord_17 (by decide) ?_
    refine gq_goto hC 37 dX11_addWord_18 (by decide) ?_
    exact jb37 (1 : Int32) v_keptMany_13 v_thrown_14 v_a_15 v_kept_16 hF
  unfold F_X11_addWord at hF
  refine gq_aload_n hC 0 dX11_addWord_0 rfl rfl ?_
  refine gq_aload_n hC 0 dX11_addWord_1 rfl rfl ?_
  refine gq_iload_n hC 1 dX11_addWord_2 rfl rfl ?_
  obtain ⟨r_17, hc_, hF⟩ := ob1_e hF
  refine gq_callVi hC [0, 1] [(h_t_, .inr (11, [.ref h_a, .ref h_fresh, .ref h_kept, .int v_keptMany, .int v_thrown, .ref h_buffer, .int v_buffered, .int v_size, .int v_at, .int v_behind, .int v_kind, .int v_wrong, .int v_wrongAt, .int v_errorAt, .long v_number, .ref h_worthFrom, .ref h_cutsFrom, .ref h_endFrom, .ref h_changes, .ref h_waysFrom, .int v_toCut, .int v_toLeave, .ref h_costAt, .ref h_places, .ref h_isCut, .ref h_written, .int v_writtenMany])), (h_a, .inl (cJ, 499, .inr (.inl v_a))), (h_kept, .inl (cJ, 3992, .inr (.inl v_kept)))] [.int x1] [.ref h_t_] (k_X11_isSegment l D cI cJ cZ cO z h_t_ h_a h_fresh h_kept h_buffer h_worthFrom h_cutsFrom h_endFrom h_changes h_waysFrom h_costAt h_places h_isCut h_written x1 v_keptMany v_thrown v_buffered v_size v_at v_behind v_kind v_wrong v_wrongAt v_errorAt v_number v_toCut v_toLeave v_writtenMany v_a r_17 hc_) gX11_addWord_X11_isSegment rfl ⟨rfl, rfl⟩ hy_X11_isSegment ⟨Nat.le_of_ble_eq_true rfl, Nat.le_of_ble_eq_true rfl⟩ rfl rfl rfl (q0 := 0) rfl rfl rfl (Nat.le_of_ble_eq_true rfl) rfl dX11_addWord_3 rfl rfl ?_
  refine gq_if_eq hC 17 dX11_addWord_6 (by decide) (fun hc_22 => ?_) (fun hc_22 => ?_)
  · have hF := (if_pos hc_22).symm.trans hF
    exact jb17 v_keptMany v_thrown v_a v_kept hF
  · have hF := (if_neg hc_22).symm.trans hF
    refine gq_aload_n hC 0 dX11_addWord_9 rfl rfl ?_
    refine gq_iload_n hC 2 dX11_addWord_10 rfl rfl ?_
    obtain ⟨r_18, hc_, hF⟩ := ob1_e hF
    refine gq_callVi hC [0, 1] [(h_t_, .inr (11, [.ref h_a, .ref h_fresh, .ref h_kept, .int v_keptMany, .int v_thrown, .ref h_buffer, .int v_buffered, .int v_size, .int v_at, .int v_behind, .int v_kind, .int v_wrong, .int v_wrongAt, .int v_errorAt, .long v_number, .ref h_worthFrom, .ref h_cutsFrom, .ref h_endFrom, .ref h_changes, .ref h_waysFrom, .int v_toCut, .int v_toLeave, .ref h_costAt, .ref h_places, .ref h_isCut, .ref h_written, .int v_writtenMany])), (h_a, .inl (cJ, 499, .inr (.inl v_a))), (h_kept, .inl (cJ, 3992, .inr (.inl v_kept)))] [.int x2] [.ref h_t_] (k_X11_isKnown l D cI cJ cZ cO z h_t_ h_a h_fresh h_kept h_buffer h_worthFrom h_cutsFrom h_endFrom h_changes h_waysFrom h_costAt h_places h_isCut h_written x2 v_keptMany v_thrown v_buffered v_size v_at v_behind v_kind v_wrong v_wrongAt v_errorAt v_number v_toCut v_toLeave v_writtenMany v_a r_18 hc_) gX11_addWord_X11_isKnown rfl ⟨rfl, rfl⟩ hy_X11_isKnown ⟨Nat.le_of_ble_eq_true rfl, Nat.le_of_ble_eq_true rfl⟩ rfl rfl rfl (q0 := 0) rfl rfl rfl (Nat.le_of_ble_eq_true rfl) rfl dX11_addWord_11 rfl rfl ?_
    refine gq_if_ne hC 21 dX11_addWord_14 (by decide) (fun hc_21 => ?_) (fun hc_21 => ?_)
    · have hF := (if_neg hc_21).symm.trans hF
      refine gq_aload_n hC 0 dX11_addWord_21 rfl rfl ?_
      refine gq_iload_n hC 1 dX11_addWord_22 rfl rfl ?_
      refine gq_iconst hC (2 : Int32) dX11_addWord_23 (by decide) ?_
      obtain ⟨r_19, hc_, hF⟩ := ob1_e hF
      refine gq_callVi hC [0, 1] [(h_t_, .inr (11, [.ref h_a, .ref h_fresh, .ref h_kept, .int v_keptMany, .int v_thrown, .ref h_buffer, .int v_buffered, .int v_size, .int v_at, .int v_behind, .int v_kind, .int v_wrong, .int v_wrongAt, .int v_errorAt, .long v_number, .ref h_worthFrom, .ref h_cutsFrom, .ref h_endFrom, .ref h_changes, .ref h_waysFrom, .int v_toCut, .int v_toLeave, .ref h_costAt, .ref h_places, .ref h_isCut, .ref h_written, .int v_writtenMany])), (h_a, .inl (cJ, 499, .inr (.inl v_a))), (h_kept, .inl (cJ, 3992, .inr (.inl v_kept)))] [.int x1, .int (2 : Int32)] [.ref h_t_] (k_X11_of l D cI cJ cZ cO z h_t_ h_a h_fresh h_kept h_buffer h_worthFrom h_cutsFrom h_endFrom h_changes h_waysFrom h_costAt h_places h_isCut h_written x1 (2 : Int32) v_keptMany v_thrown v_buffered v_size v_at v_behind v_kind v_wrong v_wrongAt v_errorAt v_number v_toCut v_toLeave v_writtenMany v_a r_19 hc_) gX11_addWord_X11_of rfl ⟨rfl, rfl⟩ hy_X11_of ⟨Nat.le_of_ble_eq_true rfl, Nat.le_of_ble_eq_true rfl⟩ rfl rfl rfl (q0 := 0) rfl rfl rfl (Nat.le_of_ble_eq_true rfl) rfl dX11_addWord_24 rfl rfl ?_
      refine gq_bipush hC (8 : Int32) dX11_addWord_27 (by decide) ?_
      refine gq_icmp_ne hC 36 dX11_addWord_29 (by decide) (fun hc_20 => ?_) (fun hc_20 => ?_)
      · have hF := (if_neg hc_20).symm.trans hF
        refine gq_iconst hC (0 : Int32) dX11_addWord_36 (by decide) ?_
        exact jb37 (0 : Int32) v_keptMany v_thrown v_a v_kept hF
      · have hF := (if_pos hc_20).symm.trans hF
        refine gq_iconst hC (2 : Int32) dX11_addWord_32 (by decide) ?_
        refine gq_goto hC 37 dX11_addWord_33 (by decide) ?_
        exact jb37 (2 : Int32) v_keptMany v_thrown v_a v_kept hF
    · have hF := (if_pos hc_21).symm.trans hF
      exact jb17 v_keptMany v_thrown v_a v_kept hF
theorem hy_X11_removeSegment : yX11_removeSegment.cls = RX11 ∧ yX11_removeSegment.cls ≠ "java/lang/invoke/MethodHandle" ∧ yX11_removeSegment.cls ≠ "java/lang/invoke/VarHandle" ∧ (parseMethodDescriptor yX11_removeSegment.desc).map (fun d => d.parameters.length) = some 1 := by decide +kernel
set_option maxRecDepth 20000 in
set_option maxHeartbeats 4000000 in
theorem k_X11_removeSegment (l : Launch) (D : va_G) (cI cJ cZ cO : ClassId) (z : Nat → Nat)   (h_t_ : Nat) (h_a : Nat) (h_kept : Nat) (h_fresh : Nat) (h_buffer : Nat) (h_worthFrom : Nat) (h_cutsFrom : Nat) (h_endFrom : Nat) (h_changes : Nat) (h_waysFrom : Nat) (h_costAt : Nat) (h_places : Nat) (h_isCut : Nat) (h_written : Nat) (x1 : Int32) (v_keptMany : Int32) (v_thrown : Int32) (v_buffered : Int32) (v_size : Int32) (v_at : Int32) (v_behind : Int32) (v_kind : Int32) (v_wrong : Int32) (v_wrongAt : Int32) (v_errorAt : Int32) (v_number : Int64) (v_toCut : Int32) (v_toLeave : Int32) (v_writtenMany : Int32) (v_a : Nat → Int64) (v_kept : Nat → Int64) (r_ : Int32) (w_keptMany : Int32) (w_thrown : Int32) (w_a : Nat → Int64) (w_kept : Nat → Int64) (hF : F_X11_removeSegment x1 v_keptMany v_thrown v_a v_kept = some (r_, w_keptMany, w_thrown, w_a, w_kept)) : Mi l yX11_removeSegment wsX11_removeSegment (rmD 2) D (gq_ty cI cJ cZ cO) z [.ref h_t_, .int x1] [(h_t_, .inr (11, [.ref h_a, .ref h_fresh, .ref h_kept, .int v_keptMany, .int v_thrown, .ref h_buffer, .int v_buffered, .int v_size, .int v_at, .int v_behind, .int v_kind, .int v_wrong, .int v_wrongAt, .int v_errorAt, .long v_number, .ref h_worthFrom, .ref h_cutsFrom, .ref h_endFrom, .ref h_changes, .ref h_waysFrom, .int v_toCut, .int v_toLeave, .ref h_costAt, .ref h_places, .ref h_isCut, .ref h_written, .int v_writtenMany])), (h_a, .inl (cJ, 499, .inr (.inl v_a))), (h_kept, .inl (cJ, 3992, .inr (.inl v_kept)))] r_ [(h_t_, .inr (11, [.ref h_a, .ref h_fresh, .ref h_kept, .int w_keptMany, .int w_thrown, .ref h_buffer, .int v_buffered, .int v_size, .int v_at, .int v_behind, .int v_kind, .int v_wrong, .int v_wrongAt, .int v_errorAt, .long v_number, .ref h_worthFrom, .ref h_cutsFrom, .ref h_endFrom, .ref h_changes, .ref h_waysFrom, .int v_toCut, .int v_toLeave, .ref h_costAt, .ref h_places, .ref h_isCut, .ref h_written, .int v_writtenMany])), (h_a, .inl (cJ, 499, .inr (.inl w_a))), (h_kept, .inl (cJ, 3992, .inr (.inl w_kept)))] 0 0 := by
  refine Mi.of (cc := cX11_removeSegment) (maxL := 4) (by decide) rfl (Nat.le_of_ble_eq_true rfl) ⟨Nat.le_refl 0, Nat.le_refl 0⟩ ?_
  intro p e s m args below meth c A hC ha
  have hin_X11 : ∀ w ∈ wsX110, w ∈ wsX11_removeSegment := by decide +kernel
  have hw_9 : Cond.fieldLink RX11 9 (TX11 0).1 (TX11 0).2.1 (TX11 0).2.2.1 ∈ wsX11_removeSegment := by decide +kernel
  have hw_79 : Cond.fieldLink RX11 79 (TX11 4).1 (TX11 4).2.1 (TX11 4).2.2.1 ∈ wsX11_removeSegment := by decide +kernel
  obtain ⟨Q, hQ⟩ : ∃ Q, Q = gq_Qi below D A args s r_ [(h_t_, .inr (11, [.ref h_a, .ref h_fresh, .ref h_kept, .int w_keptMany, .int w_thrown, .ref h_buffer, .int v_buffered, .int v_size, .int v_at, .int v_behind, .int v_kind, .int v_wrong, .int v_wrongAt, .int v_errorAt, .long v_number, .ref h_worthFrom, .ref h_cutsFrom, .ref h_endFrom, .ref h_changes, .ref h_waysFrom, .int v_toCut, .int v_toLeave, .ref h_costAt, .ref h_places, .ref h_isCut, .ref h_written, .int v_writtenMany])), (h_a, .inl (cJ, 499, .inr (.inl w_a))), (h_kept, .inl (cJ, 3992, .inr (.inl w_kept)))] 0 0 := ⟨_, rfl⟩
  rw [← hQ]
  refine gq_loc [(0, .ref h_t_), (1, .int x1)] rfl ?_
  have jb14 : ∀ (st_1 : Int32) (v_keptMany_2 : Int32) (v_thrown_3 : Int32) (v_a_4 : Nat → Int64) (v_kept_5 : Nat → Int64), F_X11_removeSegment_b14 x1 st_1 v_keptMany_2 v_thrown_3 v_a_4 v_kept_5 = some (r_, w_keptMany, w_thrown, w_a, w_kept) → Gx p l e (rmD 2) s m args below meth c D A 4 Q 0 0 14 [(0, .ref h_t_), (1, .int x1)] [.int st_1, .ref h_t_] [(h_t_, .inr (11, [.ref h_a, .ref h_fresh, .ref h_kept, .int v_keptMany_2, .int v_thrown_3, .ref h_buffer, .int v_buffered, .int v_size, .int v_at, .int v_behind, .int v_kind, .int v_wrong, .int v_wrongAt, .int v_errorAt, .long v_number, .ref h_worthFrom, .ref h_cutsFrom, .ref h_endFrom, .ref h_changes, .ref h_waysFrom, .int v_toCut, .int v_toLeave, .ref h_costAt, .ref h_places, .ref h_isCut, .ref h_written, .int v_writtenMany])), (h_a, .inl (cJ, 499, .inr (.inl v_a_4))), (h_kept, .inl (cJ, 3992, .inr (.inl v_kept_5)))] := by
    intro st_1 v_keptMany_2 v_thrown_3 v_a_4 v_kept_5 hF
    unfold F_X11_removeSegment_b14 at hF
    refine gq_put1 hC (kf := 4) 0 [(h_t_, .inr (11, [.ref h_a, .ref h_fresh, .ref h_kept, .int v_keptMany_2, .int st_1, .ref h_buffer, .int v_buffered, .int v_size, .int v_at, .int v_behind, .int v_kind, .int v_wrong, .int v_wrongAt, .int v_errorAt, .long v_number, .ref h_worthFrom, .ref h_cutsFrom, .ref h_endFrom, .ref h_changes, .ref h_waysFrom, .int v_toCut, .int v_toLeave, .ref h_costAt, .ref h_places, .ref h_isCut, .ref h_written, .int v_writtenMany])), (h_a, .inl (cJ, 499, .inr (.inl v_a_4))), (h_kept, .inl (cJ, 3992, .inr (.inl v_kept_5)))] tyX11 tyX11_ok nmX11 hin_X11 rfl rfl (by decide) hw_79 rfl rfl rfl (Nat.le_of_ble_eq_true rfl) dX11_removeSegment_14 rfl ?_
    refine gq_aload_n hC 0 dX11_removeSegment_17 rfl rfl ?_
    refine gq_get hC (kf := 4) 0 hin_X11 rfl rfl (by decide) hw_79 rfl dX11_removeSegment_18 ?_
    refine gq_if_le hC 26 dX11_removeSegment_21 (by decide) (fun hc_31 => ?_) (fun hc_31 => ?_)
    · have hF := (if_pos hc_31).symm.trans hF
      refine gq_aload_n hC 0 dX11_removeSegment_26 rfl rfl ?_
      obtain ⟨v_keptMany_6, v_kept_7, hc_, hF⟩ := ob2_e hF
      refine gq_callVv hC [0, 1, 2] [(h_t_, .inr (11, [.ref h_a, .ref h_fresh, .ref h_kept, .int v_keptMany_6, .int st_1, .ref h_buffer, .int v_buffered, .int v_size, .int v_at, .int v_behind, .int v_kind, .int v_wrong, .int v_wrongAt, .int v_errorAt, .long v_number, .ref h_worthFrom, .ref h_cutsFrom, .ref h_endFrom, .ref h_changes, .ref h_waysFrom, .int v_toCut, .int v_toLeave, .ref h_costAt, .ref h_places, .ref h_isCut, .ref h_written, .int v_writtenMany])), (h_a, .inl (cJ, 499, .inr (.inl v_a_4))), (h_kept, .inl (cJ, 3992, .inr (.inl v_kept_7)))] [] [] (k_X11_keeps l D cI cJ cZ cO z h_t_ h_a h_kept h_fresh h_buffer h_worthFrom h_cutsFrom h_endFrom h_changes h_waysFrom h_costAt h_places h_isCut h_written v_keptMany_2 st_1 v_buffered v_size v_at v_behind v_kind v_wrong v_wrongAt v_errorAt v_number v_toCut v_toLeave v_writtenMany v_a_4 v_kept_5 v_keptMany_6 v_kept_7 hc_) gX11_removeSegment_X11_keeps rfl ⟨rfl, rfl⟩ hy_X11_keeps ⟨Nat.le_of_ble_eq_true rfl, Nat.le_of_ble_eq_true rfl⟩ rfl rfl rfl (q0 := 0) rfl rfl rfl (Nat.le_of_ble_eq_true rfl) rfl dX11_removeSegment_27 rfl rfl ?_
      refine gq_aload_n hC 0 dX11_removeSegment_30 rfl rfl ?_
      obtain ⟨r_8, hc_, hF⟩ := ob1_e hF
      refine gq_callVi hC [0, 1] [(h_t_, .inr (11, [.ref h_a, .ref h_fresh, .ref h_kept, .int v_keptMany_6, .int st_1, .ref h_buffer, .int v_buffered, .int v_size, .int v_at, .int v_behind, .int v_kind, .int v_wrong, .int v_wrongAt, .int v_errorAt, .long v_number, .ref h_worthFrom, .ref h_cutsFrom, .ref h_endFrom, .ref h_changes, .ref h_waysFrom, .int v_toCut, .int v_toLeave, .ref h_costAt, .ref h_places, .ref h_isCut, .ref h_written, .int v_writtenMany])), (h_a, .inl (cJ, 499, .inr (.inl v_a_4))), (h_kept, .inl (cJ, 3992, .inr (.inl v_kept_7)))] [] [] (k_X11_many l D cI cJ cZ cO z h_t_ h_a h_fresh h_kept h_buffer h_worthFrom h_cutsFrom h_endFrom h_changes h_waysFrom h_costAt h_places h_isCut h_written v_keptMany_6 st_1 v_buffered v_size v_at v_behind v_kind v_wrong v_wrongAt v_errorAt v_number v_toCut v_toLeave v_writtenMany v_a_4 r_8 hc_) gX11_removeSegment_X11_many rfl ⟨rfl, rfl⟩ hy_X11_many ⟨Nat.le_of_ble_eq_true rfl, Nat.le_of_ble_eq_true rfl⟩ rfl rfl rfl (q0 := 0) rfl rfl rfl (Nat.le_of_ble_eq_true rfl) rfl dX11_removeSegment_31 rfl rfl ?_
      refine gq_iconst hC (1 : Int32) dX11_removeSegment_34 (by decide) ?_
      refine gq_isub hC dX11_removeSegment_35 ?_
      refine gq_istore_n hC [(2, .int (r_8 - (1 : Int32))), (0, .ref h_t_), (1, .int x1)] dX11_removeSegment_36 rfl (by decide) rfl ?_
      refine gq_bipush hC (10 : Int32) dX11_removeSegment_37 (by decide) ?_
      refine gq_bipush hC (12 : Int32) dX11_removeSegment_39 (by decide) ?_
      refine gq_iload_n hC 2 dX11_removeSegment_41 rfl rfl ?_
      refine gq_imul hC dX11_removeSegment_42 ?_
      refine gq_iadd hC dX11_removeSegment_43 ?_
      refine gq_istore_n hC [(3, .int ((10 : Int32) + ((12 : Int32) * x1))), (2, .int (r_8 - (1 : Int32))), (0, .ref h_t_), (1, .int x1)] dX11_removeSegment_44 rfl (by decide) rfl ?_
      have lp45 : ∀ (l2_9 : Int32) (v_keptMany_11 : Int32) (v_thrown_12 : Int32) (v_kept_14 : Nat → Int64), ∀ (e_18 : (Nat → Int64)), Gx p l e (rmD 2) s m args below meth c D A 4 Q 0 0 77 [(0, .ref h_t_), (2, .int l2_9)] [] [(h_t_, .inr (11, [.ref h_a, .ref h_fresh, .ref h_kept, .int v_keptMany_11, .int v_thrown_12, .ref h_buffer, .int v_buffered, .int v_size, .int v_at, .int v_behind, .int v_kind, .int v_wrong, .int v_wrongAt, .int v_errorAt, .long v_number, .ref h_worthFrom, .ref h_cutsFrom, .ref h_endFrom, .ref h_changes, .ref h_waysFrom, .int v_toCut, .int v_toLeave, .ref h_costAt, .ref h_places, .ref h_isCut, .ref h_written, .int v_writtenMany])), (h_a, .inl (cJ, 499, .inr (.inl e_18))), (h_kept, .inl (cJ, 3992, .inr (.inl v_kept_14)))] → ∀ (N : Nat) (l3_10 : Int32) (v_a_13 : Nat → Int64), wh (fun k q => S_X11_removeSegment_45 l2_9 v_keptMany_11 v_thrown_12 v_kept_14 k q.1 q.2) N (l3_10, v_a_13) = some e_18 → Gx p l e (rmD 2) s m args below meth c D A 4 Q 0 0 45 [(0, .ref h_t_), (2, .int l2_9), (3, .int l3_10)] [] [(h_t_, .inr (11, [.ref h_a, .ref h_fresh, .ref h_kept, .int v_keptMany_11, .int v_thrown_12, .ref h_buffer, .int v_buffered, .int v_size, .int v_at, .int v_behind, .int v_kind, .int v_wrong, .int v_wrongAt, .int v_errorAt, .long v_number, .ref h_worthFrom, .ref h_cutsFrom, .ref h_endFrom, .ref h_changes, .ref h_waysFrom, .int v_toCut, .int v_toLeave, .ref h_costAt, .ref h_places, .ref h_isCut, .ref h_written, .int v_writtenMany])), (h_a, .inl (cJ, 499, .inr (.inl v_a_13))), (h_kept, .inl (cJ, 3992, .inr (.inl v_kept_14)))] := by
        intro l2_9 v_keptMany_11 v_thrown_12 v_kept_14 e_18 hx0 N
        induction N with
        | zero => intro l3_10 v_a_13 hw; exact absurd hw (wh_0 _ _ _)
        | succ N ih =>
          intro l3_10 v_a_13 hw
          have hF : S_X11_removeSegment_45 l2_9 v_keptMany_11 v_thrown_12 v_kept_14 (wh (fun k q => S_X11_removeSegment_45 l2_9 v_keptMany_11 v_thrown_12 v_kept_14 k q.1 q.2) N) l3_10 v_a_13 = some e_18 := hw
          unfold S_X11_removeSegment_45 at hF
          refine gq_iload_n hC 2 dX11_removeSegment_45 rfl rfl ?_
          refine gq_bipush hC (10 : Int32) dX11_removeSegment_46 (by decide) ?_
          refine gq_bipush hC (12 : Int32) dX11_removeSegment_48 (by decide) ?_
          refine gq_iload_n hC 1 dX11_removeSegment_50 rfl rfl ?_
          refine gq_imul hC dX11_removeSegment_51 ?_
          refine gq_iadd hC dX11_removeSegment_52 ?_
          refine gq_icmp_ge hC 77 dX11_removeSegment_53 (by decide) (fun hc_17 => ?_) (fun hc_17 => ?_)
          · have hF := (if_pos hc_17).symm.trans hF
            refine gq_sub [(0, .ref h_t_), (2, .int l2_9)] [0, 1] rfl ?_
            cases hF
            exact hx0
          · have hF := (if_neg hc_17).symm.trans hF
            refine gq_aload_n hC 0 dX11_removeSegment_56 rfl rfl ?_
            refine gq_get hC (kf := 0) 0 hin_X11 rfl rfl (by decide) hw_9 rfl dX11_removeSegment_57 ?_
            refine gq_iload_n hC 2 dX11_removeSegment_60 rfl rfl ?_
            refine gq_aload_n hC 0 dX11_removeSegment_61 rfl rfl ?_
            refine gq_get hC (kf := 0) 0 hin_X11 rfl rfl (by decide) hw_9 rfl dX11_removeSegment_62 ?_
            refine gq_iload_n hC 2 dX11_removeSegment_65 rfl rfl ?_
            refine gq_bipush hC (12 : Int32) dX11_removeSegment_66 (by decide) ?_
            refine gq_iadd hC dX11_removeSegment_68 ?_
            obtain ⟨hi_15, hF⟩ := gi_e hF
            refine gq_lald hC 1 1 rfl rfl hi_15 dX11_removeSegment_69 ?_
            obtain ⟨hi_16, hF⟩ := gi_e hF
            refine gq_last hC 1 1 [(h_t_, .inr (11, [.ref h_a, .ref h_fresh, .ref h_kept, .int v_keptMany_11, .int v_thrown_12, .ref h_buffer, .int v_buffered, .int v_size, .int v_at, .int v_behind, .int v_kind, .int v_wrong, .int v_wrongAt, .int v_errorAt, .long v_number, .ref h_worthFrom, .ref h_cutsFrom, .ref h_endFrom, .ref h_changes, .ref h_waysFrom, .int v_toCut, .int v_toLeave, .ref h_costAt, .ref h_places, .ref h_isCut, .ref h_written, .int v_writtenMany])), (h_a, .inl (cJ, 499, .inr (.inl (vp_updL v_a_13 l3_10.toNatClampNeg (v_a_13 (l3_10 + (12 : Int32)).toNatClampNeg))))), (h_kept, .inl (cJ, 3992, .inr (.inl v_kept_14)))] rfl rfl hi_16 dX11_removeSegment_70 rfl ?_
            refine gq_iinc hC 2 (l3_10 + (1 : Int32)) [(3, .int (l3_10 + (1 : Int32))), (0, .ref h_t_), (2, .int l2_9)] dX11_removeSegment_71 rfl rfl (by decide) rfl ?_
            refine gq_goto hC 45 dX11_removeSegment_74 (by decide) ?_
            refine gq_sub [(0, .ref h_t_), (2, .int l2_9), (3, .int (l3_10 + (1 : Int32)))] [1, 2, 0] rfl ?_
            exact ih (l3_10 + (1 : Int32)) (vp_updL v_a_13 l3_10.toNatClampNeg (v_a_13 (l3_10 + (12 : Int32)).toNatClampNeg)) hF
      refine gq_sub [(0, .ref h_t_), (2, .int (r_8 - (1 : Int32))), (3, .int ((10 : Int32) + ((12 : Int32) * x1)))] [2, 1, 0] rfl ?_
      obtain ⟨e_19, hw_, hF⟩ := ob1_e hF
      refine lp45 (r_8 - (1 : Int32)) v_keptMany_6 st_1 v_kept_7 e_19 ?_ wF ((10 : Int32) + ((12 : Int32) * x1)) v_a_4 hw_
      refine gq_bipush hC (10 : Int32) dX11_removeSegment_77 (by decide) ?_
      refine gq_bipush hC (12 : Int32) dX11_removeSegment_79 (by decide) ?_
      refine gq_iload_n hC 1 dX11_removeSegment_81 rfl rfl ?_
      refine gq_imul hC dX11_removeSegment_82 ?_
      refine gq_iadd hC dX11_removeSegment_83 ?_
      refine gq_istore_n hC [(3, .int ((10 : Int32) + ((12 : Int32) * (r_8 - (1 : Int32))))), (0, .ref h_t_), (2, .int (r_8 - (1 : Int32)))] dX11_removeSegment_84 rfl (by decide) rfl ?_
      have lp85 : ∀ (l2_20 : Int32) (v_keptMany_22 : Int32) (v_thrown_23 : Int32) (v_kept_25 : Nat → Int64), ∀ (e_28 : (Nat → Int64)), Gx p l e (rmD 2) s m args below meth c D A 4 Q 0 0 112 [(0, .ref h_t_), (2, .int l2_20)] [] [(h_t_, .inr (11, [.ref h_a, .ref h_fresh, .ref h_kept, .int v_keptMany_22, .int v_thrown_23, .ref h_buffer, .int v_buffered, .int v_size, .int v_at, .int v_behind, .int v_kind, .int v_wrong, .int v_wrongAt, .int v_errorAt, .long v_number, .ref h_worthFrom, .ref h_cutsFrom, .ref h_endFrom, .ref h_changes, .ref h_waysFrom, .int v_toCut, .int v_toLeave, .ref h_costAt, .ref h_places, .ref h_isCut, .ref h_written, .int v_writtenMany])), (h_a, .inl (cJ, 499, .inr (.inl e_28))), (h_kept, .inl (cJ, 3992, .inr (.inl v_kept_25)))] → ∀ (N : Nat) (l3_21 : Int32) (v_a_24 : Nat → Int64), wh (fun k q => S_X11_removeSegment_85 l2_20 v_keptMany_22 v_thrown_23 v_kept_25 k q.1 q.2) N (l3_21, v_a_24) = some e_28 → Gx p l e (rmD 2) s m args below meth c D A 4 Q 0 0 85 [(0, .ref h_t_), (2, .int l2_20), (3, .int l3_21)] [] [(h_t_, .inr (11, [.ref h_a, .ref h_fresh, .ref h_kept, .int v_keptMany_22, .int v_thrown_23, .ref h_buffer, .int v_buffered, .int v_size, .int v_at, .int v_behind, .int v_kind, .int v_wrong, .int v_wrongAt, .int v_errorAt, .long v_number, .ref h_worthFrom, .ref h_cutsFrom, .ref h_endFrom, .ref h_changes, .ref h_waysFrom, .int v_toCut, .int v_toLeave, .ref h_costAt, .ref h_places, .ref h_isCut, .ref h_written, .int v_writtenMany])), (h_a, .inl (cJ, 499, .inr (.inl v_a_24))), (h_kept, .inl (cJ, 3992, .inr (.inl v_kept_25)))] := by
        intro l2_20 v_keptMany_22 v_thrown_23 v_kept_25 e_28 hx0 N
        induction N with
        | zero => intro l3_21 v_a_24 hw; exact absurd hw (wh_0 _ _ _)
        | succ N ih =>
          intro l3_21 v_a_24 hw
          have hF : S_X11_removeSegment_85 l2_20 v_keptMany_22 v_thrown_23 v_kept_25 (wh (fun k q => S_X11_removeSegment_85 l2_20 v_keptMany_22 v_thrown_23 v_kept_25 k q.1 q.2) N) l3_21 v_a_24 = some e_28 := hw
          unfold S_X11_removeSegment_85 at hF
          refine gq_iload_n hC 2 dX11_removeSegment_85 rfl rfl ?_
          refine gq_bipush hC (10 : Int32) dX11_removeSegment_86 (by decide) ?_
          refine gq_bipush hC (12 : Int32) dX11_removeSegment_88 (by decide) ?_
          refine gq_iload_n hC 1 dX11_removeSegment_90 rfl rfl ?_
          refine gq_imul hC dX11_removeSegment_91 ?_
          refine gq_iadd hC dX11_removeSegment_92 ?_
          refine gq_bipush hC (12 : Int32) dX11_removeSegment_93 (by decide) ?_
          refine gq_iadd hC dX11_removeSegment_95 ?_
          refine gq_icmp_ge hC 112 dX11_removeSegment_96 (by decide) (fun hc_27 => ?_) (fun hc_27 => ?_)
          · have hF := (if_pos hc_27).symm.trans hF
            refine gq_sub [(0, .ref h_t_), (2, .int l2_20)] [0, 1] rfl ?_
            cases hF
            exact hx0
          · have hF := (if_neg hc_27).symm.trans hF
            refine gq_aload_n hC 0 dX11_removeSegment_99 rfl rfl ?_
            refine gq_get hC (kf := 0) 0 hin_X11 rfl rfl (by decide) hw_9 rfl dX11_removeSegment_100 ?_
            refine gq_iload_n hC 2 dX11_removeSegment_103 rfl rfl ?_
            refine gq_lconst hC (0 : Int64) dX11_removeSegment_104 (by decide) ?_
            obtain ⟨hi_26, hF⟩ := gi_e hF
            refine gq_last hC 1 1 [(h_t_, .inr (11, [.ref h_a, .ref h_fresh, .ref h_kept, .int v_keptMany_22, .int v_thrown_23, .ref h_buffer, .int v_buffered, .int v_size, .int v_at, .int v_behind, .int v_kind, .int v_wrong, .int v_wrongAt, .int v_errorAt, .long v_number, .ref h_worthFrom, .ref h_cutsFrom, .ref h_endFrom, .ref h_changes, .ref h_waysFrom, .int v_toCut, .int v_toLeave, .ref h_costAt, .ref h_places, .ref h_isCut, .ref h_written, .int v_writtenMany])), (h_a, .inl (cJ, 499, .inr (.inl (vp_updL v_a_24 l3_21.toNatClampNeg (0 : Int64))))), (h_kept, .inl (cJ, 3992, .inr (.inl v_kept_25)))] rfl rfl hi_26 dX11_removeSegment_105 rfl ?_
            refine gq_iinc hC 2 (l3_21 + (1 : Int32)) [(3, .int (l3_21 + (1 : Int32))), (0, .ref h_t_), (2, .int l2_20)] dX11_removeSegment_106 rfl rfl (by decide) rfl ?_
            refine gq_goto hC 85 dX11_removeSegment_109 (by decide) ?_
            refine gq_sub [(0, .ref h_t_), (2, .int l2_20), (3, .int (l3_21 + (1 : Int32)))] [1, 2, 0] rfl ?_
            exact ih (l3_21 + (1 : Int32)) (vp_updL v_a_24 l3_21.toNatClampNeg (0 : Int64)) hF
      refine gq_sub [(0, .ref h_t_), (2, .int (r_8 - (1 : Int32))), (3, .int ((10 : Int32) + ((12 : Int32) * (r_8 - (1 : Int32)))))] [1, 2, 0] rfl ?_
      obtain ⟨e_29, hw_, hF⟩ := ob1_e hF
      refine lp85 (r_8 - (1 : Int32)) v_keptMany_6 st_1 v_kept_7 e_29 ?_ wF ((10 : Int32) + ((12 : Int32) * (r_8 - (1 : Int32)))) e_19 hw_
      refine gq_aload_n hC 0 dX11_removeSegment_112 rfl rfl ?_
      refine gq_get hC (kf := 0) 0 hin_X11 rfl rfl (by decide) hw_9 rfl dX11_removeSegment_113 ?_
      refine gq_bipush hC (6 : Int32) dX11_removeSegment_116 (by decide) ?_
      refine gq_iload_n hC 1 dX11_removeSegment_118 rfl rfl ?_
      refine gq_i2l hC dX11_removeSegment_119 ?_
      obtain ⟨hi_30, hF⟩ := gi_e hF
      refine gq_last hC 1 1 [(h_t_, .inr (11, [.ref h_a, .ref h_fresh, .ref h_kept, .int v_keptMany_6, .int st_1, .ref h_buffer, .int v_buffered, .int v_size, .int v_at, .int v_behind, .int v_kind, .int v_wrong, .int v_wrongAt, .int v_errorAt, .long v_number, .ref h_worthFrom, .ref h_cutsFrom, .ref h_endFrom, .ref h_changes, .ref h_waysFrom, .int v_toCut, .int v_toLeave, .ref h_costAt, .ref h_places, .ref h_isCut, .ref h_written, .int v_writtenMany])), (h_a, .inl (cJ, 499, .inr (.inl (vp_updL e_29 (6 : Int32).toNatClampNeg ((r_8 - (1 : Int32)).toInt64))))), (h_kept, .inl (cJ, 3992, .inr (.inl v_kept_7)))] rfl rfl hi_30 dX11_removeSegment_120 rfl ?_
      refine gq_iload_n hC 1 dX11_removeSegment_121 rfl rfl ?_
      cases hF
      rw [hQ]
      exact gq_iret hC rfl dX11_removeSegment_122
    · have hF := (if_neg hc_31).symm.trans hF
      refine gq_iconst hC (0 : Int32) dX11_removeSegment_24 (by decide) ?_
      cases hF
      rw [hQ]
      exact gq_iret hC rfl dX11_removeSegment_25
  unfold F_X11_removeSegment at hF
  refine gq_aload_n hC 0 dX11_removeSegment_0 rfl rfl ?_
  refine gq_aload_n hC 0 dX11_removeSegment_1 rfl rfl ?_
  refine gq_iload_n hC 1 dX11_removeSegment_2 rfl rfl ?_
  obtain ⟨r_32, hc_, hF⟩ := ob1_e hF
  refine gq_callVi hC [0, 1] [(h_t_, .inr (11, [.ref h_a, .ref h_fresh, .ref h_kept, .int v_keptMany, .int v_thrown, .ref h_buffer, .int v_buffered, .int v_size, .int v_at, .int v_behind, .int v_kind, .int v_wrong, .int v_wrongAt, .int v_errorAt, .long v_number, .ref h_worthFrom, .ref h_cutsFrom, .ref h_endFrom, .ref h_changes, .ref h_waysFrom, .int v_toCut, .int v_toLeave, .ref h_costAt, .ref h_places, .ref h_isCut, .ref h_written, .int v_writtenMany])), (h_a, .inl (cJ, 499, .inr (.inl v_a))), (h_kept, .inl (cJ, 3992, .inr (.inl v_kept)))] [.int x1] [.ref h_t_] (k_X11_isSegment l D cI cJ cZ cO z h_t_ h_a h_fresh h_kept h_buffer h_worthFrom h_cutsFrom h_endFrom h_changes h_waysFrom h_costAt h_places h_isCut h_written x1 v_keptMany v_thrown v_buffered v_size v_at v_behind v_kind v_wrong v_wrongAt v_errorAt v_number v_toCut v_toLeave v_writtenMany v_a r_32 hc_) gX11_removeSegment_X11_isSegment rfl ⟨rfl, rfl⟩ hy_X11_isSegment ⟨Nat.le_of_ble_eq_true rfl, Nat.le_of_ble_eq_true rfl⟩ rfl rfl rfl (q0 := 0) rfl rfl rfl (Nat.le_of_ble_eq_true rfl) rfl dX11_removeSegment_3 rfl rfl ?_
  refine gq_if_eq hC 13 dX11_removeSegment_6 (by decide) (fun hc_33 => ?_) (fun hc_33 => ?_)
  · have hF := (if_pos hc_33).symm.trans hF
    refine gq_iconst hC (1 : Int32) dX11_removeSegment_13 (by decide) ?_
    exact jb14 (1 : Int32) v_keptMany v_thrown v_a v_kept hF
  · have hF := (if_neg hc_33).symm.trans hF
    refine gq_iconst hC (0 : Int32) dX11_removeSegment_9 (by decide) ?_
    refine gq_goto hC 14 dX11_removeSegment_10 (by decide) ?_
    exact jb14 (0 : Int32) v_keptMany v_thrown v_a v_kept hF
theorem hy_X11_swaps : yX11_swaps.cls = RX11 ∧ yX11_swaps.cls ≠ "java/lang/invoke/MethodHandle" ∧ yX11_swaps.cls ≠ "java/lang/invoke/VarHandle" ∧ (parseMethodDescriptor yX11_swaps.desc).map (fun d => d.parameters.length) = some 2 := by decide +kernel
set_option maxRecDepth 20000 in
set_option maxHeartbeats 4000000 in
theorem k_X11_swaps (l : Launch) (D : va_G) (cI cJ cZ cO : ClassId) (z : Nat → Nat)   (h_t_ : Nat) (h_a : Nat) (h_fresh : Nat) (h_kept : Nat) (h_buffer : Nat) (h_worthFrom : Nat) (h_cutsFrom : Nat) (h_endFrom : Nat) (h_changes : Nat) (h_waysFrom : Nat) (h_costAt : Nat) (h_places : Nat) (h_isCut : Nat) (h_written : Nat) (x1 : Int32) (x2 : Int32) (v_keptMany : Int32) (v_thrown : Int32) (v_buffered : Int32) (v_size : Int32) (v_at : Int32) (v_behind : Int32) (v_kind : Int32) (v_wrong : Int32) (v_wrongAt : Int32) (v_errorAt : Int32) (v_number : Int64) (v_toCut : Int32) (v_toLeave : Int32) (v_writtenMany : Int32) (v_a : Nat → Int64) (w_a : Nat → Int64) (hF : F_X11_swaps x1 x2 v_a = some w_a) : Mv l yX11_swaps wsX11_swaps (rmD 0) D (gq_ty cI cJ cZ cO) z [.ref h_t_, .int x1, .int x2] [(h_t_, .inr (11, [.ref h_a, .ref h_fresh, .ref h_kept, .int v_keptMany, .int v_thrown, .ref h_buffer, .int v_buffered, .int v_size, .int v_at, .int v_behind, .int v_kind, .int v_wrong, .int v_wrongAt, .int v_errorAt, .long v_number, .ref h_worthFrom, .ref h_cutsFrom, .ref h_endFrom, .ref h_changes, .ref h_waysFrom, .int v_toCut, .int v_toLeave, .ref h_costAt, .ref h_places, .ref h_isCut, .ref h_written, .int v_writtenMany])), (h_a, .inl (cJ, 499, .inr (.inl v_a)))] [(h_t_, .inr (11, [.ref h_a, .ref h_fresh, .ref h_kept, .int v_keptMany, .int v_thrown, .ref h_buffer, .int v_buffered, .int v_size, .int v_at, .int v_behind, .int v_kind, .int v_wrong, .int v_wrongAt, .int v_errorAt, .long v_number, .ref h_worthFrom, .ref h_cutsFrom, .ref h_endFrom, .ref h_changes, .ref h_waysFrom, .int v_toCut, .int v_toLeave, .ref h_costAt, .ref h_places, .ref h_isCut, .ref h_written, .int v_writtenMany])), (h_a, .inl (cJ, 499, .inr (.inl w_a)))] 0 0 := by
  refine Mv.of (cc := cX11_swaps) (maxL := 6) (by decide) rfl (Nat.le_of_ble_eq_true rfl) ⟨Nat.le_refl 0, Nat.le_refl 0⟩ ?_
  intro p e s m args below meth c A hC ha
  have hin_X11 : ∀ w ∈ wsX110, w ∈ wsX11_swaps := by decide +kernel
  have hw_9 : Cond.fieldLink RX11 9 (TX11 0).1 (TX11 0).2.1 (TX11 0).2.2.1 ∈ wsX11_swaps := by decide +kernel
  obtain ⟨Q, hQ⟩ : ∃ Q, Q = gq_Qv below D A args s [(h_t_, .inr (11, [.ref h_a, .ref h_fresh, .ref h_kept, .int v_keptMany, .int v_thrown, .ref h_buffer, .int v_buffered, .int v_size, .int v_at, .int v_behind, .int v_kind, .int v_wrong, .int v_wrongAt, .int v_errorAt, .long v_number, .ref h_worthFrom, .ref h_cutsFrom, .ref h_endFrom, .ref h_changes, .ref h_waysFrom, .int v_toCut, .int v_toLeave, .ref h_costAt, .ref h_places, .ref h_isCut, .ref h_written, .int v_writtenMany])), (h_a, .inl (cJ, 499, .inr (.inl w_a)))] 0 0 := ⟨_, rfl⟩
  rw [← hQ]
  refine gq_loc [(0, .ref h_t_), (1, .int x1), (2, .int x2)] rfl ?_
  unfold F_X11_swaps at hF
  refine gq_iconst hC (0 : Int32) dX11_swaps_0 (by decide) ?_
  refine gq_istore_n hC [(3, .int (0 : Int32)), (0, .ref h_t_), (1, .int x1), (2, .int x2)] dX11_swaps_1 rfl (by decide) rfl ?_
  have lp2 : ∀ (e_8 : (Nat → Int64)), Gx p l e (rmD 0) s m args below meth c D A 6 Q 0 0 74 [] [] [(h_t_, .inr (11, [.ref h_a, .ref h_fresh, .ref h_kept, .int v_keptMany, .int v_thrown, .ref h_buffer, .int v_buffered, .int v_size, .int v_at, .int v_behind, .int v_kind, .int v_wrong, .int v_wrongAt, .int v_errorAt, .long v_number, .ref h_worthFrom, .ref h_cutsFrom, .ref h_endFrom, .ref h_changes, .ref h_waysFrom, .int v_toCut, .int v_toLeave, .ref h_costAt, .ref h_places, .ref h_isCut, .ref h_written, .int v_writtenMany])), (h_a, .inl (cJ, 499, .inr (.inl e_8)))] → ∀ (N : Nat) (l3_1 : Int32) (v_a_2 : Nat → Int64), wh (fun k q => S_X11_swaps_2 x1 x2 k q.1 q.2) N (l3_1, v_a_2) = some e_8 → Gx p l e (rmD 0) s m args below meth c D A 6 Q 0 0 2 [(0, .ref h_t_), (1, .int x1), (2, .int x2), (3, .int l3_1)] [] [(h_t_, .inr (11, [.ref h_a, .ref h_fresh, .ref h_kept, .int v_keptMany, .int v_thrown, .ref h_buffer, .int v_buffered, .int v_size, .int v_at, .int v_behind, .int v_kind, .int v_wrong, .int v_wrongAt, .int v_errorAt, .long v_number, .ref h_worthFrom, .ref h_cutsFrom, .ref h_endFrom, .ref h_changes, .ref h_waysFrom, .int v_toCut, .int v_toLeave, .ref h_costAt, .ref h_places, .ref h_isCut, .ref h_written, .int v_writtenMany])), (h_a, .inl (cJ, 499, .inr (.inl v_a_2)))] := by
    intro e_8 hx0 N
    induction N with
    | zero => intro l3_1 v_a_2 hw; exact absurd hw (wh_0 _ _ _)
    | succ N ih =>
      intro l3_1 v_a_2 hw
      have hF : S_X11_swaps_2 x1 x2 (wh (fun k q => S_X11_swaps_2 x1 x2 k q.1 q.2) N) l3_1 v_a_2 = some e_8 := hw
      unfold S_X11_swaps_2 at hF
      refine gq_iload_n hC 3 dX11_swaps_2 rfl rfl ?_
      refine gq_bipush hC (12 : Int32) dX11_swaps_3 (by decide) ?_
      refine gq_icmp_ge hC 74 dX11_swaps_5 (by decide) (fun hc_7 => ?_) (fun hc_7 => ?_)
      · have hF := (if_pos hc_7).symm.trans hF
        refine gq_sub [] [] rfl ?_
        cases hF
        exact hx0
      · have hF := (if_neg hc_7).symm.trans hF
        refine gq_aload_n hC 0 dX11_swaps_8 rfl rfl ?_
        refine gq_get hC (kf := 0) 0 hin_X11 rfl rfl (by decide) hw_9 rfl dX11_swaps_9 ?_
        refine gq_bipush hC (10 : Int32) dX11_swaps_12 (by decide) ?_
        refine gq_bipush hC (12 : Int32) dX11_swaps_14 (by decide) ?_
        refine gq_iload_n hC 1 dX11_swaps_16 rfl rfl ?_
        refine gq_imul hC dX11_swaps_17 ?_
        refine gq_iadd hC dX11_swaps_18 ?_
        refine gq_iload_n hC 3 dX11_swaps_19 rfl rfl ?_
        refine gq_iadd hC dX11_swaps_20 ?_
        obtain ⟨hi_3, hF⟩ := gi_e hF
        refine gq_lald hC 1 1 rfl rfl hi_3 dX11_swaps_21 ?_
        refine gq_lstore hC [(4, .long (v_a_2 (((10 : Int32) + ((12 : Int32) * x1)) + l3_1).toNatClampNeg)), (0, .ref h_t_), (1, .int x1), (2, .int x2), (3, .int l3_1)] dX11_swaps_22 (by decide) rfl ?_
        refine gq_aload_n hC 1 dX11_swaps_24 rfl rfl ?_
        refine gq_get hC (kf := 0) 0 hin_X11 rfl rfl (by decide) hw_9 rfl dX11_swaps_25 ?_
        refine gq_bipush hC (10 : Int32) dX11_swaps_28 (by decide) ?_
        refine gq_bipush hC (12 : Int32) dX11_swaps_30 (by decide) ?_
        refine gq_iload_n hC 2 dX11_swaps_32 rfl rfl ?_
        refine gq_imul hC dX11_swaps_33 ?_
        refine gq_iadd hC dX11_swaps_34 ?_
        refine gq_iload_n hC 4 dX11_swaps_35 rfl rfl ?_
        refine gq_iadd hC dX11_swaps_36 ?_
        refine gq_aload_n hC 1 dX11_swaps_37 rfl rfl ?_
        refine gq_get hC (kf := 0) 0 hin_X11 rfl rfl (by decide) hw_9 rfl dX11_swaps_38 ?_
        refine gq_bipush hC (10 : Int32) dX11_swaps_41 (by decide) ?_
        refine gq_bipush hC (12 : Int32) dX11_swaps_43 (by decide) ?_
        refine gq_iload_n hC 3 dX11_swaps_45 rfl rfl ?_
        refine gq_imul hC dX11_swaps_46 ?_
        refine gq_iadd hC dX11_swaps_47 ?_
        refine gq_iload_n hC 4 dX11_swaps_48 rfl rfl ?_
        refine gq_iadd hC dX11_swaps_49 ?_
        obtain ⟨hi_4, hF⟩ := gi_e hF
        refine gq_lald hC 1 1 rfl rfl hi_4 dX11_swaps_50 ?_
        obtain ⟨hi_5, hF⟩ := gi_e hF
        refine gq_last hC 1 1 [(h_t_, .inr (11, [.ref h_a, .ref h_fresh, .ref h_kept, .int v_keptMany, .int v_thrown, .ref h_buffer, .int v_buffered, .int v_size, .int v_at, .int v_behind, .int v_kind, .int v_wrong, .int v_wrongAt, .int v_errorAt, .long v_number, .ref h_worthFrom, .ref h_cutsFrom, .ref h_endFrom, .ref h_changes, .ref h_waysFrom, .int v_toCut, .int v_toLeave, .ref h_costAt, .ref h_places, .ref h_isCut, .ref h_written, .int v_writtenMany])), (h_a, .inl (cJ, 499, .inr (.inl (vp_updL v_a_2 (((10 : Int32) + ((12 : Int32) * x1)) + l3_1).toNatClampNeg (v_a_2 (((10 : Int32) + ((12 : Int32) * x2)) + l3_1).toNatClampNeg)))))] rfl rfl hi_5 dX11_swaps_51 rfl ?_
        refine gq_aload_n hC 1 dX11_swaps_52 rfl rfl ?_
        refine gq_get hC (kf := 0) 0 hin_X11 rfl rfl (by decide) hw_9 rfl dX11_swaps_53 ?_
        refine gq_bipush hC (10 : Int32) dX11_swaps_56 (by decide) ?_
        refine gq_bipush hC (12 : Int32) dX11_swaps_58 (by decide) ?_
        refine gq_iload_n hC 3 dX11_swaps_60 rfl rfl ?_
        refine gq_imul hC dX11_swaps_61 ?_
        refine gq_iadd hC dX11_swaps_62 ?_
        refine gq_iload_n hC 4 dX11_swaps_63 rfl rfl ?_
        refine gq_iadd hC dX11_swaps_64 ?_
        refine gq_lload hC 0 dX11_swaps_65 rfl ?_
        obtain ⟨hi_6, hF⟩ := gi_e hF
        refine gq_last hC 1 1 [(h_t_, .inr (11, [.ref h_a, .ref h_fresh, .ref h_kept, .int v_keptMany, .int v_thrown, .ref h_buffer, .int v_buffered, .int v_size, .int v_at, .int v_behind, .int v_kind, .int v_wrong, .int v_wrongAt, .int v_errorAt, .long v_number, .ref h_worthFrom, .ref h_cutsFrom, .ref h_endFrom, .ref h_changes, .ref h_waysFrom, .int v_toCut, .int v_toLeave, .ref h_costAt, .ref h_places, .ref h_isCut, .ref h_written, .int v_writtenMany])), (h_a, .inl (cJ, 499, .inr (.inl (vp_updL (vp_updL v_a_2 (((10 : Int32) + ((12 : Int32) * x1)) + l3_1).toNatClampNeg (v_a_2 (((10 : Int32) + ((12 : Int32) * x2)) + l3_1).toNatClampNeg)) (((10 : Int32) + ((12 : Int32) * x2)) + l3_1).toNatClampNeg (v_a_2 (((10 : Int32) + ((12 : Int32) * x1)) + l3_1).toNatClampNeg)))))] rfl rfl hi_6 dX11_swaps_67 rfl ?_
        refine gq_iinc hC 4 (l3_1 + (1 : Int32)) [(3, .int (l3_1 + (1 : Int32))), (4, .long (v_a_2 (((10 : Int32) + ((12 : Int32) * x1)) + l3_1).toNatClampNeg)), (0, .ref h_t_), (1, .int x1), (2, .int x2)] dX11_swaps_68 rfl rfl (by decide) rfl ?_
        refine gq_goto hC 2 dX11_swaps_71 (by decide) ?_
        refine gq_sub [(0, .ref h_t_), (1, .int x1), (2, .int x2), (3, .int (l3_1 + (1 : Int32)))] [2, 3, 4, 0] rfl ?_
        exact ih (l3_1 + (1 : Int32)) (vp_updL (vp_updL v_a_2 (((10 : Int32) + ((12 : Int32) * x1)) + l3_1).toNatClampNeg (v_a_2 (((10 : Int32) + ((12 : Int32) * x2)) + l3_1).toNatClampNeg)) (((10 : Int32) + ((12 : Int32) * x2)) + l3_1).toNatClampNeg (v_a_2 (((10 : Int32) + ((12 : Int32) * x1)) + l3_1).toNatClampNeg)) hF
  refine gq_sub [(0, .ref h_t_), (1, .int x1), (2, .int x2), (3, .int (0 : Int32))] [1, 2, 3, 0] rfl ?_
  obtain ⟨e_9, hw_, hF⟩ := ob1_e hF
  refine lp2  e_9 ?_ wF (0 : Int32) v_a hw_
  cases hF
  rw [hQ]
  exact gq_vret hC dX11_swaps_74
theorem hy_X11_moveSegment : yX11_moveSegment.cls = RX11 ∧ yX11_moveSegment.cls ≠ "java/lang/invoke/MethodHandle" ∧ yX11_moveSegment.cls ≠ "java/lang/invoke/VarHandle" ∧ (parseMethodDescriptor yX11_moveSegment.desc).map (fun d => d.parameters.length) = some 2 := by decide +kernel
set_option maxRecDepth 20000 in
set_option maxHeartbeats 4000000 in
theorem k_X11_moveSegment (l : Launch) (D : va_G) (cI cJ cZ cO : ClassId) (z : Nat → Nat)   (h_t_ : Nat) (h_a : Nat) (h_kept : Nat) (h_fresh : Nat) (h_buffer : Nat) (h_worthFrom : Nat) (h_cutsFrom : Nat) (h_endFrom : Nat) (h_changes : Nat) (h_waysFrom : Nat) (h_costAt : Nat) (h_places : Nat) (h_isCut : Nat) (h_written : Nat) (x1 : Int32) (x2 : Int32) (v_keptMany : Int32) (v_thrown : Int32) (v_buffered : Int32) (v_size : Int32) (v_at : Int32) (v_behind : Int32) (v_kind : Int32) (v_wrong : Int32) (v_wrongAt : Int32) (v_errorAt : Int32) (v_number : Int64) (v_toCut : Int32) (v_toLeave : Int32) (v_writtenMany : Int32) (v_a : Nat → Int64) (v_kept : Nat → Int64) (r_ : Int32) (w_keptMany : Int32) (w_thrown : Int32) (w_a : Nat → Int64) (w_kept : Nat → Int64) (hF : F_X11_moveSegment x1 x2 v_keptMany v_thrown v_a v_kept = some (r_, w_keptMany, w_thrown, w_a, w_kept)) : Mi l yX11_moveSegment wsX11_moveSegment (rmD 2) D (gq_ty cI cJ cZ cO) z [.ref h_t_, .int x1, .int x2] [(h_t_, .inr (11, [.ref h_a, .ref h_fresh, .ref h_kept, .int v_keptMany, .int v_thrown, .ref h_buffer, .int v_buffered, .int v_size, .int v_at, .int v_behind, .int v_kind, .int v_wrong, .int v_wrongAt, .int v_errorAt, .long v_number, .ref h_worthFrom, .ref h_cutsFrom, .ref h_endFrom, .ref h_changes, .ref h_waysFrom, .int v_toCut, .int v_toLeave, .ref h_costAt, .ref h_places, .ref h_isCut, .ref h_written, .int v_writtenMany])), (h_a, .inl (cJ, 499, .inr (.inl v_a))), (h_kept, .inl (cJ, 3992, .inr (.inl v_kept)))] r_ [(h_t_, .inr (11, [.ref h_a, .ref h_fresh, .ref h_kept, .int w_keptMany, .int w_thrown, .ref h_buffer, .int v_buffered, .int v_size, .int v_at, .int v_behind, .int v_kind, .int v_wrong, .int v_wrongAt, .int v_errorAt, .long v_number, .ref h_worthFrom, .ref h_cutsFrom, .ref h_endFrom, .ref h_changes, .ref h_waysFrom, .int v_toCut, .int v_toLeave, .ref h_costAt, .ref h_places, .ref h_isCut, .ref h_written, .int v_writtenMany])), (h_a, .inl (cJ, 499, .inr (.inl w_a))), (h_kept, .inl (cJ, 3992, .inr (.inl w_kept)))] 0 0 := by
  refine Mi.of (cc := cX11_moveSegment) (maxL := 4) (by decide) rfl (Nat.le_of_ble_eq_true rfl) ⟨Nat.le_refl 0, Nat.le_refl 0⟩ ?_
  intro p e s m args below meth c A hC ha
  have hin_X11 : ∀ w ∈ wsX110, w ∈ wsX11_moveSegment := by decide +kernel
  have hw_79 : Cond.fieldLink RX11 79 (TX11 4).1 (TX11 4).2.1 (TX11 4).2.2.1 ∈ wsX11_moveSegment := by decide +kernel
  obtain ⟨Q, hQ⟩ : ∃ Q, Q = gq_Qi below D A args s r_ [(h_t_, .inr (11, [.ref h_a, .ref h_fresh, .ref h_kept, .int w_keptMany, .int w_thrown, .ref h_buffer, .int v_buffered, .int v_size, .int v_at, .int v_behind, .int v_kind, .int v_wrong, .int v_wrongAt, .int v_errorAt, .long v_number, .ref h_worthFrom, .ref h_cutsFrom, .ref h_endFrom, .ref h_changes, .ref h_waysFrom, .int v_toCut, .int v_toLeave, .ref h_costAt, .ref h_places, .ref h_isCut, .ref h_written, .int v_writtenMany])), (h_a, .inl (cJ, 499, .inr (.inl w_a))), (h_kept, .inl (cJ, 3992, .inr (.inl w_kept)))] 0 0 := ⟨_, rfl⟩
  rw [← hQ]
  refine gq_loc [(0, .ref h_t_), (1, .int x1), (2, .int x2)] rfl ?_
  have jb22 : ∀ (st_1 : Int32) (v_keptMany_2 : Int32) (v_thrown_3 : Int32) (v_a_4 : Nat → Int64) (v_kept_5 : Nat → Int64), F_X11_moveSegment_b22 x1 x2 st_1 v_keptMany_2 v_thrown_3 v_a_4 v_kept_5 = some (r_, w_keptMany, w_thrown, w_a, w_kept) → Gx p l e (rmD 2) s m args below meth c D A 4 Q 0 0 22 [(0, .ref h_t_), (1, .int x1), (2, .int x2)] [.int st_1, .ref h_t_] [(h_t_, .inr (11, [.ref h_a, .ref h_fresh, .ref h_kept, .int v_keptMany_2, .int v_thrown_3, .ref h_buffer, .int v_buffered, .int v_size, .int v_at, .int v_behind, .int v_kind, .int v_wrong, .int v_wrongAt, .int v_errorAt, .long v_number, .ref h_worthFrom, .ref h_cutsFrom, .ref h_endFrom, .ref h_changes, .ref h_waysFrom, .int v_toCut, .int v_toLeave, .ref h_costAt, .ref h_places, .ref h_isCut, .ref h_written, .int v_writtenMany])), (h_a, .inl (cJ, 499, .inr (.inl v_a_4))), (h_kept, .inl (cJ, 3992, .inr (.inl v_kept_5)))] := by
    intro st_1 v_keptMany_2 v_thrown_3 v_a_4 v_kept_5 hF
    unfold F_X11_moveSegment_b22 at hF
    refine gq_put1 hC (kf := 4) 0 [(h_t_, .inr (11, [.ref h_a, .ref h_fresh, .ref h_kept, .int v_keptMany_2, .int st_1, .ref h_buffer, .int v_buffered, .int v_size, .int v_at, .int v_behind, .int v_kind, .int v_wrong, .int v_wrongAt, .int v_errorAt, .long v_number, .ref h_worthFrom, .ref h_cutsFrom, .ref h_endFrom, .ref h_changes, .ref h_waysFrom, .int v_toCut, .int v_toLeave, .ref h_costAt, .ref h_places, .ref h_isCut, .ref h_written, .int v_writtenMany])), (h_a, .inl (cJ, 499, .inr (.inl v_a_4))), (h_kept, .inl (cJ, 3992, .inr (.inl v_kept_5)))] tyX11 tyX11_ok nmX11 hin_X11 rfl rfl (by decide) hw_79 rfl rfl rfl (Nat.le_of_ble_eq_true rfl) dX11_moveSegment_22 rfl ?_
    refine gq_aload_n hC 0 dX11_moveSegment_25 rfl rfl ?_
    refine gq_get hC (kf := 4) 0 hin_X11 rfl rfl (by decide) hw_79 rfl dX11_moveSegment_26 ?_
    refine gq_if_le hC 34 dX11_moveSegment_29 (by decide) (fun hc_27 => ?_) (fun hc_27 => ?_)
    · have hF := (if_pos hc_27).symm.trans hF
      refine gq_aload_n hC 0 dX11_moveSegment_34 rfl rfl ?_
      obtain ⟨v_keptMany_6, v_kept_7, hc_, hF⟩ := ob2_e hF
      refine gq_callVv hC [0, 1, 2] [(h_t_, .inr (11, [.ref h_a, .ref h_fresh, .ref h_kept, .int v_keptMany_6, .int st_1, .ref h_buffer, .int v_buffered, .int v_size, .int v_at, .int v_behind, .int v_kind, .int v_wrong, .int v_wrongAt, .int v_errorAt, .long v_number, .ref h_worthFrom, .ref h_cutsFrom, .ref h_endFrom, .ref h_changes, .ref h_waysFrom, .int v_toCut, .int v_toLeave, .ref h_costAt, .ref h_places, .ref h_isCut, .ref h_written, .int v_writtenMany])), (h_a, .inl (cJ, 499, .inr (.inl v_a_4))), (h_kept, .inl (cJ, 3992, .inr (.inl v_kept_7)))] [] [] (k_X11_keeps l D cI cJ cZ cO z h_t_ h_a h_kept h_fresh h_buffer h_worthFrom h_cutsFrom h_endFrom h_changes h_waysFrom h_costAt h_places h_isCut h_written v_keptMany_2 st_1 v_buffered v_size v_at v_behind v_kind v_wrong v_wrongAt v_errorAt v_number v_toCut v_toLeave v_writtenMany v_a_4 v_kept_5 v_keptMany_6 v_kept_7 hc_) gX11_moveSegment_X11_keeps rfl ⟨rfl, rfl⟩ hy_X11_keeps ⟨Nat.le_of_ble_eq_true rfl, Nat.le_of_ble_eq_true rfl⟩ rfl rfl rfl (q0 := 0) rfl rfl rfl (Nat.le_of_ble_eq_true rfl) rfl dX11_moveSegment_35 rfl rfl ?_
      refine gq_iload_n hC 1 dX11_moveSegment_38 rfl rfl ?_
      refine gq_istore_n hC [(3, .int x1), (0, .ref h_t_), (1, .int x1), (2, .int x2)] dX11_moveSegment_39 rfl (by decide) rfl ?_
      have lp40 : ∀ (v_keptMany_9 : Int32) (v_thrown_10 : Int32) (v_kept_12 : Nat → Int64), ∀ (e_15 : (Nat → Int64)), Gx p l e (rmD 2) s m args below meth c D A 4 Q 0 0 59 [(0, .ref h_t_), (1, .int x1), (2, .int x2)] [] [(h_t_, .inr (11, [.ref h_a, .ref h_fresh, .ref h_kept, .int v_keptMany_9, .int v_thrown_10, .ref h_buffer, .int v_buffered, .int v_size, .int v_at, .int v_behind, .int v_kind, .int v_wrong, .int v_wrongAt, .int v_errorAt, .long v_number, .ref h_worthFrom, .ref h_cutsFrom, .ref h_endFrom, .ref h_changes, .ref h_waysFrom, .int v_toCut, .int v_toLeave, .ref h_costAt, .ref h_places, .ref h_isCut, .ref h_written, .int v_writtenMany])), (h_a, .inl (cJ, 499, .inr (.inl e_15))), (h_kept, .inl (cJ, 3992, .inr (.inl v_kept_12)))] → ∀ (N : Nat) (l3_8 : Int32) (v_a_11 : Nat → Int64), wh (fun k q => S_X11_moveSegment_40 x1 x2 v_keptMany_9 v_thrown_10 v_kept_12 k q.1 q.2) N (l3_8, v_a_11) = some e_15 → Gx p l e (rmD 2) s m args below meth c D A 4 Q 0 0 40 [(0, .ref h_t_), (1, .int x1), (2, .int x2), (3, .int l3_8)] [] [(h_t_, .inr (11, [.ref h_a, .ref h_fresh, .ref h_kept, .int v_keptMany_9, .int v_thrown_10, .ref h_buffer, .int v_buffered, .int v_size, .int v_at, .int v_behind, .int v_kind, .int v_wrong, .int v_wrongAt, .int v_errorAt, .long v_number, .ref h_worthFrom, .ref h_cutsFrom, .ref h_endFrom, .ref h_changes, .ref h_waysFrom, .int v_toCut, .int v_toLeave, .ref h_costAt, .ref h_places, .ref h_isCut, .ref h_written, .int v_writtenMany])), (h_a, .inl (cJ, 499, .inr (.inl v_a_11))), (h_kept, .inl (cJ, 3992, .inr (.inl v_kept_12)))] := by
        intro v_keptMany_9 v_thrown_10 v_kept_12 e_15 hx0 N
        induction N with
        | zero => intro l3_8 v_a_11 hw; exact absurd hw (wh_0 _ _ _)
        | succ N ih =>
          intro l3_8 v_a_11 hw
          have hF : S_X11_moveSegment_40 x1 x2 v_keptMany_9 v_thrown_10 v_kept_12 (wh (fun k q => S_X11_moveSegment_40 x1 x2 v_keptMany_9 v_thrown_10 v_kept_12 k q.1 q.2) N) l3_8 v_a_11 = some e_15 := hw
          unfold S_X11_moveSegment_40 at hF
          refine gq_iload_n hC 3 dX11_moveSegment_40 rfl rfl ?_
          refine gq_iload_n hC 2 dX11_moveSegment_41 rfl rfl ?_
          refine gq_icmp_ge hC 59 dX11_moveSegment_42 (by decide) (fun hc_14 => ?_) (fun hc_14 => ?_)
          · have hF := (if_pos hc_14).symm.trans hF
            refine gq_sub [(0, .ref h_t_), (1, .int x1), (2, .int x2)] [0, 1, 2] rfl ?_
            cases hF
            exact hx0
          · have hF := (if_neg hc_14).symm.trans hF
            refine gq_aload_n hC 0 dX11_moveSegment_45 rfl rfl ?_
            refine gq_iload_n hC 3 dX11_moveSegment_46 rfl rfl ?_
            refine gq_iload_n hC 3 dX11_moveSegment_47 rfl rfl ?_
            refine gq_iconst hC (1 : Int32) dX11_moveSegment_48 (by decide) ?_
            refine gq_iadd hC dX11_moveSegment_49 ?_
            obtain ⟨v_a_13, hc_, hF⟩ := ob1_e hF
            refine gq_callVv hC [0, 1] [(h_t_, .inr (11, [.ref h_a, .ref h_fresh, .ref h_kept, .int v_keptMany_9, .int v_thrown_10, .ref h_buffer, .int v_buffered, .int v_size, .int v_at, .int v_behind, .int v_kind, .int v_wrong, .int v_wrongAt, .int v_errorAt, .long v_number, .ref h_worthFrom, .ref h_cutsFrom, .ref h_endFrom, .ref h_changes, .ref h_waysFrom, .int v_toCut, .int v_toLeave, .ref h_costAt, .ref h_places, .ref h_isCut, .ref h_written, .int v_writtenMany])), (h_a, .inl (cJ, 499, .inr (.inl v_a_13))), (h_kept, .inl (cJ, 3992, .inr (.inl v_kept_12)))] [.int l3_8, .int (l3_8 + (1 : Int32))] [] (k_X11_swaps l D cI cJ cZ cO z h_t_ h_a h_fresh h_kept h_buffer h_worthFrom h_cutsFrom h_endFrom h_changes h_waysFrom h_costAt h_places h_isCut h_written l3_8 (l3_8 + (1 : Int32)) v_keptMany_9 v_thrown_10 v_buffered v_size v_at v_behind v_kind v_wrong v_wrongAt v_errorAt v_number v_toCut v_toLeave v_writtenMany v_a_11 v_a_13 hc_) gX11_moveSegment_X11_swaps rfl ⟨rfl, rfl⟩ hy_X11_swaps ⟨Nat.le_of_ble_eq_true rfl, Nat.le_of_ble_eq_true rfl⟩ rfl rfl rfl (q0 := 0) rfl rfl rfl (Nat.le_of_ble_eq_true rfl) rfl dX11_moveSegment_50 rfl rfl ?_
            refine gq_iinc hC 3 (l3_8 + (1 : Int32)) [(3, .int (l3_8 + (1 : Int32))), (0, .ref h_t_), (1, .int x1), (2, .int x2)] dX11_moveSegment_53 rfl rfl (by decide) rfl ?_
            refine gq_goto hC 40 dX11_moveSegment_56 (by decide) ?_
            refine gq_sub [(0, .ref h_t_), (1, .int x1), (2, .int x2), (3, .int (l3_8 + (1 : Int32)))] [1, 2, 3, 0] rfl ?_
            exact ih (l3_8 + (1 : Int32)) v_a_13 hF
      refine gq_sub [(0, .ref h_t_), (1, .int x1), (2, .int x2), (3, .int x1)] [1, 2, 3, 0] rfl ?_
      obtain ⟨e_16, hw_, hF⟩ := ob1_e hF
      refine lp40 v_keptMany_6 st_1 v_kept_7 e_16 ?_ wF x1 v_a_4 hw_
      refine gq_iload_n hC 1 dX11_moveSegment_59 rfl rfl ?_
      refine gq_istore_n hC [(3, .int x1), (0, .ref h_t_), (1, .int x1), (2, .int x2)] dX11_moveSegment_60 rfl (by decide) rfl ?_
      have lp61 : ∀ (v_keptMany_18 : Int32) (v_thrown_19 : Int32) (v_kept_21 : Nat → Int64), ∀ (e_24 : (Nat → Int64)), Gx p l e (rmD 2) s m args below meth c D A 4 Q 0 0 80 [(0, .ref h_t_), (2, .int x2)] [] [(h_t_, .inr (11, [.ref h_a, .ref h_fresh, .ref h_kept, .int v_keptMany_18, .int v_thrown_19, .ref h_buffer, .int v_buffered, .int v_size, .int v_at, .int v_behind, .int v_kind, .int v_wrong, .int v_wrongAt, .int v_errorAt, .long v_number, .ref h_worthFrom, .ref h_cutsFrom, .ref h_endFrom, .ref h_changes, .ref h_waysFrom, .int v_toCut, .int v_toLeave, .ref h_costAt, .ref h_places, .ref h_isCut, .ref h_written, .int v_writtenMany])), (h_a, .inl (cJ, 499, .inr (.inl e_24))), (h_kept, .inl (cJ, 3992, .inr (.inl v_kept_21)))] → ∀ (N : Nat) (l3_17 : Int32) (v_a_20 : Nat → Int64), wh (fun k q => S_X11_moveSegment_61 x2 v_keptMany_18 v_thrown_19 v_kept_21 k q.1 q.2) N (l3_17, v_a_20) = some e_24 → Gx p l e (rmD 2) s m args below meth c D A 4 Q 0 0 61 [(0, .ref h_t_), (2, .int x2), (3, .int l3_17)] [] [(h_t_, .inr (11, [.ref h_a, .ref h_fresh, .ref h_kept, .int v_keptMany_18, .int v_thrown_19, .ref h_buffer, .int v_buffered, .int v_size, .int v_at, .int v_behind, .int v_kind, .int v_wrong, .int v_wrongAt, .int v_errorAt, .long v_number, .ref h_worthFrom, .ref h_cutsFrom, .ref h_endFrom, .ref h_changes, .ref h_waysFrom, .int v_toCut, .int v_toLeave, .ref h_costAt, .ref h_places, .ref h_isCut, .ref h_written, .int v_writtenMany])), (h_a, .inl (cJ, 499, .inr (.inl v_a_20))), (h_kept, .inl (cJ, 3992, .inr (.inl v_kept_21)))] := by
        intro v_keptMany_18 v_thrown_19 v_kept_21 e_24 hx0 N
        induction N with
        | zero => intro l3_17 v_a_20 hw; exact absurd hw (wh_0 _ _ _)
        | succ N ih =>
          intro l3_17 v_a_20 hw
          have hF : S_X11_moveSegment_61 x2 v_keptMany_18 v_thrown_19 v_kept_21 (wh (fun k q => S_X11_moveSegment_61 x2 v_keptMany_18 v_thrown_19 v_kept_21 k q.1 q.2) N) l3_17 v_a_20 = some e_24 := hw
          unfold S_X11_moveSegment_61 at hF
          refine gq_iload_n hC 2 dX11_moveSegment_61 rfl rfl ?_
          refine gq_iload_n hC 1 dX11_moveSegment_62 rfl rfl ?_
          refine gq_icmp_le hC 80 dX11_moveSegment_63 (by decide) (fun hc_23 => ?_) (fun hc_23 => ?_)
          · have hF := (if_pos hc_23).symm.trans hF
            refine gq_sub [(0, .ref h_t_), (2, .int x2)] [0, 1] rfl ?_
            cases hF
            exact hx0
          · have hF := (if_neg hc_23).symm.trans hF
            refine gq_aload_n hC 0 dX11_moveSegment_66 rfl rfl ?_
            refine gq_iload_n hC 2 dX11_moveSegment_67 rfl rfl ?_
            refine gq_iload_n hC 2 dX11_moveSegment_68 rfl rfl ?_
            refine gq_iconst hC (1 : Int32) dX11_moveSegment_69 (by decide) ?_
            refine gq_isub hC dX11_moveSegment_70 ?_
            obtain ⟨v_a_22, hc_, hF⟩ := ob1_e hF
            refine gq_callVv hC [0, 1] [(h_t_, .inr (11, [.ref h_a, .ref h_fresh, .ref h_kept, .int v_keptMany_18, .int v_thrown_19, .ref h_buffer, .int v_buffered, .int v_size, .int v_at, .int v_behind, .int v_kind, .int v_wrong, .int v_wrongAt, .int v_errorAt, .long v_number, .ref h_worthFrom, .ref h_cutsFrom, .ref h_endFrom, .ref h_changes, .ref h_waysFrom, .int v_toCut, .int v_toLeave, .ref h_costAt, .ref h_places, .ref h_isCut, .ref h_written, .int v_writtenMany])), (h_a, .inl (cJ, 499, .inr (.inl v_a_22))), (h_kept, .inl (cJ, 3992, .inr (.inl v_kept_21)))] [.int l3_17, .int (l3_17 - (1 : Int32))] [] (k_X11_swaps l D cI cJ cZ cO z h_t_ h_a h_fresh h_kept h_buffer h_worthFrom h_cutsFrom h_endFrom h_changes h_waysFrom h_costAt h_places h_isCut h_written l3_17 (l3_17 - (1 : Int32)) v_keptMany_18 v_thrown_19 v_buffered v_size v_at v_behind v_kind v_wrong v_wrongAt v_errorAt v_number v_toCut v_toLeave v_writtenMany v_a_20 v_a_22 hc_) gX11_moveSegment_X11_swaps rfl ⟨rfl, rfl⟩ hy_X11_swaps ⟨Nat.le_of_ble_eq_true rfl, Nat.le_of_ble_eq_true rfl⟩ rfl rfl rfl (q0 := 0) rfl rfl rfl (Nat.le_of_ble_eq_true rfl) rfl dX11_moveSegment_71 rfl rfl ?_
            refine gq_iinc hC 2 (l3_17 + (-1 : Int32)) [(3, .int (l3_17 + (-1 : Int32))), (0, .ref h_t_), (2, .int x2)] dX11_moveSegment_74 rfl rfl (by decide) rfl ?_
            refine gq_goto hC 61 dX11_moveSegment_77 (by decide) ?_
            refine gq_sub [(0, .ref h_t_), (2, .int x2), (3, .int (l3_17 + (-1 : Int32)))] [1, 2, 0] rfl ?_
            exact ih (l3_17 + (-1 : Int32)) v_a_22 hF
      refine gq_sub [(0, .ref h_t_), (2, .int x2), (3, .int x1)] [1, 3, 0] rfl ?_
      obtain ⟨e_25, hw_, hF⟩ := ob1_e hF
      refine lp61 v_keptMany_6 st_1 v_kept_7 e_25 ?_ wF x1 e_16 hw_
      refine gq_aload_n hC 0 dX11_moveSegment_80 rfl rfl ?_
      refine gq_iload_n hC 1 dX11_moveSegment_81 rfl rfl ?_
      obtain ⟨r_26, hc_, hF⟩ := ob1_e hF
      refine gq_callVi hC [0, 1] [(h_t_, .inr (11, [.ref h_a, .ref h_fresh, .ref h_kept, .int v_keptMany_6, .int st_1, .ref h_buffer, .int v_buffered, .int v_size, .int v_at, .int v_behind, .int v_kind, .int v_wrong, .int v_wrongAt, .int v_errorAt, .long v_number, .ref h_worthFrom, .ref h_cutsFrom, .ref h_endFrom, .ref h_changes, .ref h_waysFrom, .int v_toCut, .int v_toLeave, .ref h_costAt, .ref h_places, .ref h_isCut, .ref h_written, .int v_writtenMany])), (h_a, .inl (cJ, 499, .inr (.inl e_25))), (h_kept, .inl (cJ, 3992, .inr (.inl v_kept_7)))] [.int x2] [] (k_X11_spoken l D cI cJ cZ cO z h_t_ h_a h_fresh h_kept h_buffer h_worthFrom h_cutsFrom h_endFrom h_changes h_waysFrom h_costAt h_places h_isCut h_written x2 v_keptMany_6 st_1 v_buffered v_size v_at v_behind v_kind v_wrong v_wrongAt v_errorAt v_number v_toCut v_toLeave v_writtenMany e_25 r_26 hc_) gX11_moveSegment_X11_spoken rfl ⟨rfl, rfl⟩ hy_X11_spoken ⟨Nat.le_of_ble_eq_true rfl, Nat.le_of_ble_eq_true rfl⟩ rfl rfl rfl (q0 := 0) rfl rfl rfl (Nat.le_of_ble_eq_true rfl) rfl dX11_moveSegment_82 rfl rfl ?_
      cases hF
      rw [hQ]
      exact gq_iret hC rfl dX11_moveSegment_85
    · have hF := (if_neg hc_27).symm.trans hF
      refine gq_iconst hC (0 : Int32) dX11_moveSegment_32 (by decide) ?_
      cases hF
      rw [hQ]
      exact gq_iret hC rfl dX11_moveSegment_33
  have jb21 : ∀ (v_keptMany_28 : Int32) (v_thrown_29 : Int32) (v_a_30 : Nat → Int64) (v_kept_31 : Nat → Int64), F_X11_moveSegment_b21 x1 x2 v_keptMany_28 v_thrown_29 v_a_30 v_kept_31 = some (r_, w_keptMany, w_thrown, w_a, w_kept) → Gx p l e (rmD 2) s m args below meth c D A 4 Q 0 0 21 [(0, .ref h_t_), (1, .int x1), (2, .int x2)] [.ref h_t_] [(h_t_, .inr (11, [.ref h_a, .ref h_fresh, .ref h_kept, .int v_keptMany_28, .int v_thrown_29, .ref h_buffer, .int v_buffered, .int v_size, .int v_at, .int v_behind, .int v_kind, .int v_wrong, .int v_wrongAt, .int v_errorAt, .long v_number, .ref h_worthFrom, .ref h_cutsFrom, .ref h_endFrom, .ref h_changes, .ref h_waysFrom, .int v_toCut, .int v_toLeave, .ref h_costAt, .ref h_places, .ref h_isCut, .ref h_written, .int v_writtenMany])), (h_a, .inl (cJ, 499, .inr (.inl v_a_30))), (h_kept, .inl (cJ, 3992, .inr (.inl v_kept_31)))] := by
    intro v_keptMany_28 v_thrown_29 v_a_30 v_kept_31 hF
    unfold F_X11_moveSegment_b21 at hF
    refine gq_iconst hC (1 : Int32) dX11_moveSegment_21 (by decide) ?_
    exact jb22 (1 : Int32) v_keptMany_28 v_thrown_29 v_a_30 v_kept_31 hF
  unfold F_X11_moveSegment at hF
  refine gq_aload_n hC 0 dX11_moveSegment_0 rfl rfl ?_
  refine gq_aload_n hC 0 dX11_moveSegment_1 rfl rfl ?_
  refine gq_iload_n hC 1 dX11_moveSegment_2 rfl rfl ?_
  obtain ⟨r_32, hc_, hF⟩ := ob1_e hF
  refine gq_callVi hC [0, 1] [(h_t_, .inr (11, [.ref h_a, .ref h_fresh, .ref h_kept, .int v_keptMany, .int v_thrown, .ref h_buffer, .int v_buffered, .int v_size, .int v_at, .int v_behind, .int v_kind, .int v_wrong, .int v_wrongAt, .int v_errorAt, .long v_number, .ref h_worthFrom, .ref h_cutsFrom, .ref h_endFrom, .ref h_changes, .ref h_waysFrom, .int v_toCut, .int v_toLeave, .ref h_costAt, .ref h_places, .ref h_isCut, .ref h_written, .int v_writtenMany])), (h_a, .inl (cJ, 499, .inr (.inl v_a))), (h_kept, .inl (cJ, 3992, .inr (.inl v_kept)))] [.int x1] [.ref h_t_] (k_X11_isSegment l D cI cJ cZ cO z h_t_ h_a h_fresh h_kept h_buffer h_worthFrom h_cutsFrom h_endFrom h_changes h_waysFrom h_costAt h_places h_isCut h_written x1 v_keptMany v_thrown v_buffered v_size v_at v_behind v_kind v_wrong v_wrongAt v_errorAt v_number v_toCut v_toLeave v_writtenMany v_a r_32 hc_) gX11_moveSegment_X11_isSegment rfl ⟨rfl, rfl⟩ hy_X11_isSegment ⟨Nat.le_of_ble_eq_true rfl, Nat.le_of_ble_eq_true rfl⟩ rfl rfl rfl (q0 := 0) rfl rfl rfl (Nat.le_of_ble_eq_true rfl) rfl dX11_moveSegment_3 rfl rfl ?_
  refine gq_if_eq hC 21 dX11_moveSegment_6 (by decide) (fun hc_35 => ?_) (fun hc_35 => ?_)
  · have hF := (if_pos hc_35).symm.trans hF
    exact jb21 v_keptMany v_thrown v_a v_kept hF
  · have hF := (if_neg hc_35).symm.trans hF
    refine gq_aload_n hC 0 dX11_moveSegment_9 rfl rfl ?_
    refine gq_iload_n hC 2 dX11_moveSegment_10 rfl rfl ?_
    obtain ⟨r_33, hc_, hF⟩ := ob1_e hF
    refine gq_callVi hC [0, 1] [(h_t_, .inr (11, [.ref h_a, .ref h_fresh, .ref h_kept, .int v_keptMany, .int v_thrown, .ref h_buffer, .int v_buffered, .int v_size, .int v_at, .int v_behind, .int v_kind, .int v_wrong, .int v_wrongAt, .int v_errorAt, .long v_number, .ref h_worthFrom, .ref h_cutsFrom, .ref h_endFrom, .ref h_changes, .ref h_waysFrom, .int v_toCut, .int v_toLeave, .ref h_costAt, .ref h_places, .ref h_isCut, .ref h_written, .int v_writtenMany])), (h_a, .inl (cJ, 499, .inr (.inl v_a))), (h_kept, .inl (cJ, 3992, .inr (.inl v_kept)))] [.int x2] [.ref h_t_] (k_X11_isSegment l D cI cJ cZ cO z h_t_ h_a h_fresh h_kept h_buffer h_worthFrom h_cutsFrom h_endFrom h_changes h_waysFrom h_costAt h_places h_isCut h_written x2 v_keptMany v_thrown v_buffered v_size v_at v_behind v_kind v_wrong v_wrongAt v_errorAt v_number v_toCut v_toLeave v_writtenMany v_a r_33 hc_) gX11_moveSegment_X11_isSegment rfl ⟨rfl, rfl⟩ hy_X11_isSegment ⟨Nat.le_of_ble_eq_true rfl, Nat.le_of_ble_eq_true rfl⟩ rfl rfl rfl (q0 := 0) rfl rfl rfl (Nat.le_of_ble_eq_true rfl) rfl dX11_moveSegment_11 rfl rfl ?_
    refine gq_if_eq hC 21 dX11_moveSegment_14 (by decide) (fun hc_34 => ?_) (fun hc_34 => ?_)
    · have hF := (if_pos hc_34).symm.trans hF
      exact jb21 v_keptMany v_thrown v_a v_kept hF
    · have hF := (if_neg hc_34).symm.trans hF
      refine gq_iconst hC (0 : Int32) dX11_moveSegment_17 (by decide) ?_
      refine gq_goto hC 22 dX11_moveSegment_18 (by decide) ?_
      exact jb22 (0 : Int32) v_keptMany v_thrown v_a v_kept hF
theorem hy_X11_segmentAt : yX11_segmentAt.cls = RX11 ∧ yX11_segmentAt.cls ≠ "java/lang/invoke/MethodHandle" ∧ yX11_segmentAt.cls ≠ "java/lang/invoke/VarHandle" ∧ (parseMethodDescriptor yX11_segmentAt.desc).map (fun d => d.parameters.length) = some 1 := by decide +kernel
set_option maxRecDepth 20000 in
set_option maxHeartbeats 4000000 in
theorem k_X11_segmentAt (l : Launch) (D : va_G) (cI cJ cZ cO : ClassId) (z : Nat → Nat)   (h_t_ : Nat) (h_a : Nat) (h_fresh : Nat) (h_kept : Nat) (h_buffer : Nat) (h_worthFrom : Nat) (h_cutsFrom : Nat) (h_endFrom : Nat) (h_changes : Nat) (h_waysFrom : Nat) (h_costAt : Nat) (h_places : Nat) (h_isCut : Nat) (h_written : Nat) (x1 : Int32) (v_keptMany : Int32) (v_thrown : Int32) (v_buffered : Int32) (v_size : Int32) (v_at : Int32) (v_behind : Int32) (v_kind : Int32) (v_wrong : Int32) (v_wrongAt : Int32) (v_errorAt : Int32) (v_number : Int64) (v_toCut : Int32) (v_toLeave : Int32) (v_writtenMany : Int32) (v_a : Nat → Int64) (r_ : Int32) (w_thrown : Int32) (hF : F_X11_segmentAt x1 v_thrown v_a = some (r_, w_thrown)) : Mi l yX11_segmentAt wsX11_segmentAt (rmD 2) D (gq_ty cI cJ cZ cO) z [.ref h_t_, .int x1] [(h_t_, .inr (11, [.ref h_a, .ref h_fresh, .ref h_kept, .int v_keptMany, .int v_thrown, .ref h_buffer, .int v_buffered, .int v_size, .int v_at, .int v_behind, .int v_kind, .int v_wrong, .int v_wrongAt, .int v_errorAt, .long v_number, .ref h_worthFrom, .ref h_cutsFrom, .ref h_endFrom, .ref h_changes, .ref h_waysFrom, .int v_toCut, .int v_toLeave, .ref h_costAt, .ref h_places, .ref h_isCut, .ref h_written, .int v_writtenMany])), (h_a, .inl (cJ, 499, .inr (.inl v_a)))] r_ [(h_t_, .inr (11, [.ref h_a, .ref h_fresh, .ref h_kept, .int v_keptMany, .int w_thrown, .ref h_buffer, .int v_buffered, .int v_size, .int v_at, .int v_behind, .int v_kind, .int v_wrong, .int v_wrongAt, .int v_errorAt, .long v_number, .ref h_worthFrom, .ref h_cutsFrom, .ref h_endFrom, .ref h_changes, .ref h_waysFrom, .int v_toCut, .int v_toLeave, .ref h_costAt, .ref h_places, .ref h_isCut, .ref h_written, .int v_writtenMany])), (h_a, .inl (cJ, 499, .inr (.inl v_a)))] 0 0 := by
  refine Mi.of (cc := cX11_segmentAt) (maxL := 3) (by decide) rfl (Nat.le_of_ble_eq_true rfl) ⟨Nat.le_refl 0, Nat.le_refl 0⟩ ?_
  intro p e s m args below meth c A hC ha
  have hin_X11 : ∀ w ∈ wsX110, w ∈ wsX11_segmentAt := by decide +kernel
  have hw_79 : Cond.fieldLink RX11 79 (TX11 4).1 (TX11 4).2.1 (TX11 4).2.2.1 ∈ wsX11_segmentAt := by decide +kernel
  obtain ⟨Q, hQ⟩ : ∃ Q, Q = gq_Qi below D A args s r_ [(h_t_, .inr (11, [.ref h_a, .ref h_fresh, .ref h_kept, .int v_keptMany, .int w_thrown, .ref h_buffer, .int v_buffered, .int v_size, .int v_at, .int v_behind, .int v_kind, .int v_wrong, .int v_wrongAt, .int v_errorAt, .long v_number, .ref h_worthFrom, .ref h_cutsFrom, .ref h_endFrom, .ref h_changes, .ref h_waysFrom, .int v_toCut, .int v_toLeave, .ref h_costAt, .ref h_places, .ref h_isCut, .ref h_written, .int v_writtenMany])), (h_a, .inl (cJ, 499, .inr (.inl v_a)))] 0 0 := ⟨_, rfl⟩
  rw [← hQ]
  refine gq_loc [(0, .ref h_t_), (1, .int x1)] rfl ?_
  unfold F_X11_segmentAt at hF
  refine gq_aload_n hC 0 dX11_segmentAt_0 rfl rfl ?_
  refine gq_iconst hC (0 : Int32) dX11_segmentAt_1 (by decide) ?_
  refine gq_put1 hC (kf := 4) 0 [(h_t_, .inr (11, [.ref h_a, .ref h_fresh, .ref h_kept, .int v_keptMany, .int (0 : Int32), .ref h_buffer, .int v_buffered, .int v_size, .int v_at, .int v_behind, .int v_kind, .int v_wrong, .int v_wrongAt, .int v_errorAt, .long v_number, .ref h_worthFrom, .ref h_cutsFrom, .ref h_endFrom, .ref h_changes, .ref h_waysFrom, .int v_toCut, .int v_toLeave, .ref h_costAt, .ref h_places, .ref h_isCut, .ref h_written, .int v_writtenMany])), (h_a, .inl (cJ, 499, .inr (.inl v_a)))] tyX11 tyX11_ok nmX11 hin_X11 rfl rfl (by decide) hw_79 rfl rfl rfl (Nat.le_of_ble_eq_true rfl) dX11_segmentAt_2 rfl ?_
  refine gq_iconst hC (0 : Int32) dX11_segmentAt_5 (by decide) ?_
  refine gq_istore_n hC [(2, .int (0 : Int32)), (0, .ref h_t_), (1, .int x1)] dX11_segmentAt_6 rfl (by decide) rfl ?_
  have lp7 : ∀ (v_thrown_2 : Int32), ∀ (out_ : (Int32) ⊕ (Unit)), (∀ (e_9 : Int32), out_ = .inl e_9 → Gx p l e (rmD 2) s m args below meth c D A 3 Q 0 0 35 [(2, .int e_9)] [] [(h_t_, .inr (11, [.ref h_a, .ref h_fresh, .ref h_kept, .int v_keptMany, .int v_thrown_2, .ref h_buffer, .int v_buffered, .int v_size, .int v_at, .int v_behind, .int v_kind, .int v_wrong, .int v_wrongAt, .int v_errorAt, .long v_number, .ref h_worthFrom, .ref h_cutsFrom, .ref h_endFrom, .ref h_changes, .ref h_waysFrom, .int v_toCut, .int v_toLeave, .ref h_costAt, .ref h_places, .ref h_isCut, .ref h_written, .int v_writtenMany])), (h_a, .inl (cJ, 499, .inr (.inl v_a)))]) → (out_ = .inr () → Gx p l e (rmD 2) s m args below meth c D A 3 Q 0 0 43 [] [] [(h_t_, .inr (11, [.ref h_a, .ref h_fresh, .ref h_kept, .int v_keptMany, .int v_thrown_2, .ref h_buffer, .int v_buffered, .int v_size, .int v_at, .int v_behind, .int v_kind, .int v_wrong, .int v_wrongAt, .int v_errorAt, .long v_number, .ref h_worthFrom, .ref h_cutsFrom, .ref h_endFrom, .ref h_changes, .ref h_waysFrom, .int v_toCut, .int v_toLeave, .ref h_costAt, .ref h_places, .ref h_isCut, .ref h_written, .int v_writtenMany])), (h_a, .inl (cJ, 499, .inr (.inl v_a)))]) → ∀ (N : Nat) (l2_1 : Int32), wh (fun k q => S_X11_segmentAt_7 x1 v_thrown_2 v_a k q) N l2_1 = some out_ → Gx p l e (rmD 2) s m args below meth c D A 3 Q 0 0 7 [(0, .ref h_t_), (1, .int x1), (2, .int l2_1)] [] [(h_t_, .inr (11, [.ref h_a, .ref h_fresh, .ref h_kept, .int v_keptMany, .int v_thrown_2, .ref h_buffer, .int v_buffered, .int v_size, .int v_at, .int v_behind, .int v_kind, .int v_wrong, .int v_wrongAt, .int v_errorAt, .long v_number, .ref h_worthFrom, .ref h_cutsFrom, .ref h_endFrom, .ref h_changes, .ref h_waysFrom, .int v_toCut, .int v_toLeave, .ref h_costAt, .ref h_places, .ref h_isCut, .ref h_written, .int v_writtenMany])), (h_a, .inl (cJ, 499, .inr (.inl v_a)))] := by
    intro v_thrown_2 out_ hx0 hx1 N
    induction N with
    | zero => intro l2_1 hw; exact absurd hw (wh_0 _ _ _)
    | succ N ih =>
      intro l2_1 hw
      have hF : S_X11_segmentAt_7 x1 v_thrown_2 v_a (wh (fun k q => S_X11_segmentAt_7 x1 v_thrown_2 v_a k q) N) l2_1 = some out_ := hw
      unfold S_X11_segmentAt_7 at hF
      refine gq_iload_n hC 2 dX11_segmentAt_7 rfl rfl ?_
      refine gq_aload_n hC 0 dX11_segmentAt_8 rfl rfl ?_
      obtain ⟨r_3, hc_, hF⟩ := ob1_e hF
      refine gq_callVi hC [0, 1] [(h_t_, .inr (11, [.ref h_a, .ref h_fresh, .ref h_kept, .int v_keptMany, .int v_thrown_2, .ref h_buffer, .int v_buffered, .int v_size, .int v_at, .int v_behind, .int v_kind, .int v_wrong, .int v_wrongAt, .int v_errorAt, .long v_number, .ref h_worthFrom, .ref h_cutsFrom, .ref h_endFrom, .ref h_changes, .ref h_waysFrom, .int v_toCut, .int v_toLeave, .ref h_costAt, .ref h_places, .ref h_isCut, .ref h_written, .int v_writtenMany])), (h_a, .inl (cJ, 499, .inr (.inl v_a)))] [] [.int l2_1] (k_X11_many l D cI cJ cZ cO z h_t_ h_a h_fresh h_kept h_buffer h_worthFrom h_cutsFrom h_endFrom h_changes h_waysFrom h_costAt h_places h_isCut h_written v_keptMany v_thrown_2 v_buffered v_size v_at v_behind v_kind v_wrong v_wrongAt v_errorAt v_number v_toCut v_toLeave v_writtenMany v_a r_3 hc_) gX11_segmentAt_X11_many rfl ⟨rfl, rfl⟩ hy_X11_many ⟨Nat.le_of_ble_eq_true rfl, Nat.le_of_ble_eq_true rfl⟩ rfl rfl rfl (q0 := 0) rfl rfl rfl (Nat.le_of_ble_eq_true rfl) rfl dX11_segmentAt_9 rfl rfl ?_
      refine gq_icmp_ge hC 43 dX11_segmentAt_12 (by decide) (fun hc_8 => ?_) (fun hc_8 => ?_)
      · have hF := (if_pos hc_8).symm.trans hF
        refine gq_sub [] [] rfl ?_
        exact hx1  (Option.some.inj hF).symm
      · have hF := (if_neg hc_8).symm.trans hF
        refine gq_aload_n hC 0 dX11_segmentAt_15 rfl rfl ?_
        refine gq_iload_n hC 2 dX11_segmentAt_16 rfl rfl ?_
        obtain ⟨r_4, hc_, hF⟩ := ob1_e hF
        refine gq_callVi hC [0, 1] [(h_t_, .inr (11, [.ref h_a, .ref h_fresh, .ref h_kept, .int v_keptMany, .int v_thrown_2, .ref h_buffer, .int v_buffered, .int v_size, .int v_at, .int v_behind, .int v_kind, .int v_wrong, .int v_wrongAt, .int v_errorAt, .long v_number, .ref h_worthFrom, .ref h_cutsFrom, .ref h_endFrom, .ref h_changes, .ref h_waysFrom, .int v_toCut, .int v_toLeave, .ref h_costAt, .ref h_places, .ref h_isCut, .ref h_written, .int v_writtenMany])), (h_a, .inl (cJ, 499, .inr (.inl v_a)))] [.int l2_1] [] (k_X11_spoken l D cI cJ cZ cO z h_t_ h_a h_fresh h_kept h_buffer h_worthFrom h_cutsFrom h_endFrom h_changes h_waysFrom h_costAt h_places h_isCut h_written l2_1 v_keptMany v_thrown_2 v_buffered v_size v_at v_behind v_kind v_wrong v_wrongAt v_errorAt v_number v_toCut v_toLeave v_writtenMany v_a r_4 hc_) gX11_segmentAt_X11_spoken rfl ⟨rfl, rfl⟩ hy_X11_spoken ⟨Nat.le_of_ble_eq_true rfl, Nat.le_of_ble_eq_true rfl⟩ rfl rfl rfl (q0 := 0) rfl rfl rfl (Nat.le_of_ble_eq_true rfl) rfl dX11_segmentAt_17 rfl rfl ?_
        refine gq_iload_n hC 1 dX11_segmentAt_20 rfl rfl ?_
        refine gq_icmp_gt hC 37 dX11_segmentAt_21 (by decide) (fun hc_7 => ?_) (fun hc_7 => ?_)
        · have hF := (if_pos hc_7).symm.trans hF
          refine gq_iinc hC 2 (l2_1 + (1 : Int32)) [(2, .int (l2_1 + (1 : Int32))), (0, .ref h_t_), (1, .int x1)] dX11_segmentAt_37 rfl rfl (by decide) rfl ?_
          refine gq_goto hC 7 dX11_segmentAt_40 (by decide) ?_
          refine gq_sub [(0, .ref h_t_), (1, .int x1), (2, .int (l2_1 + (1 : Int32)))] [1, 2, 0] rfl ?_
          exact ih (l2_1 + (1 : Int32)) hF
        · have hF := (if_neg hc_7).symm.trans hF
          refine gq_iload_n hC 1 dX11_segmentAt_24 rfl rfl ?_
          refine gq_aload_n hC 0 dX11_segmentAt_25 rfl rfl ?_
          refine gq_iload_n hC 2 dX11_segmentAt_26 rfl rfl ?_
          refine gq_iconst hC (1 : Int32) dX11_segmentAt_27 (by decide) ?_
          refine gq_iadd hC dX11_segmentAt_28 ?_
          obtain ⟨r_5, hc_, hF⟩ := ob1_e hF
          refine gq_callVi hC [0, 1] [(h_t_, .inr (11, [.ref h_a, .ref h_fresh, .ref h_kept, .int v_keptMany, .int v_thrown_2, .ref h_buffer, .int v_buffered, .int v_size, .int v_at, .int v_behind, .int v_kind, .int v_wrong, .int v_wrongAt, .int v_errorAt, .long v_number, .ref h_worthFrom, .ref h_cutsFrom, .ref h_endFrom, .ref h_changes, .ref h_waysFrom, .int v_toCut, .int v_toLeave, .ref h_costAt, .ref h_places, .ref h_isCut, .ref h_written, .int v_writtenMany])), (h_a, .inl (cJ, 499, .inr (.inl v_a)))] [.int (l2_1 + (1 : Int32))] [.int x1] (k_X11_spoken l D cI cJ cZ cO z h_t_ h_a h_fresh h_kept h_buffer h_worthFrom h_cutsFrom h_endFrom h_changes h_waysFrom h_costAt h_places h_isCut h_written (l2_1 + (1 : Int32)) v_keptMany v_thrown_2 v_buffered v_size v_at v_behind v_kind v_wrong v_wrongAt v_errorAt v_number v_toCut v_toLeave v_writtenMany v_a r_5 hc_) gX11_segmentAt_X11_spoken rfl ⟨rfl, rfl⟩ hy_X11_spoken ⟨Nat.le_of_ble_eq_true rfl, Nat.le_of_ble_eq_true rfl⟩ rfl rfl rfl (q0 := 0) rfl rfl rfl (Nat.le_of_ble_eq_true rfl) rfl dX11_segmentAt_29 rfl rfl ?_
          refine gq_icmp_ge hC 37 dX11_segmentAt_32 (by decide) (fun hc_6 => ?_) (fun hc_6 => ?_)
          · have hF := (if_pos hc_6).symm.trans hF
            refine gq_iinc hC 2 (l2_1 + (1 : Int32)) [(2, .int (l2_1 + (1 : Int32))), (0, .ref h_t_), (1, .int x1)] dX11_segmentAt_37 rfl rfl (by decide) rfl ?_
            refine gq_goto hC 7 dX11_segmentAt_40 (by decide) ?_
            refine gq_sub [(0, .ref h_t_), (1, .int x1), (2, .int (l2_1 + (1 : Int32)))] [1, 2, 0] rfl ?_
            exact ih (l2_1 + (1 : Int32)) hF
          · have hF := (if_neg hc_6).symm.trans hF
            refine gq_sub [(2, .int l2_1)] [2] rfl ?_
            exact hx0 _ (Option.some.inj hF).symm
  refine gq_sub [(0, .ref h_t_), (1, .int x1), (2, .int (0 : Int32))] [1, 2, 0] rfl ?_
  obtain ⟨o_, hw_, hF⟩ := ob1_e hF
  refine lp7 (0 : Int32) o_ ?_ ?_ wF (0 : Int32) hw_
  · intro e_10 ho_11
    subst ho_11
    have hF : (some (e_10, (0 : Int32))) = some _ := hF
    refine gq_iload_n hC 0 dX11_segmentAt_35 rfl rfl ?_
    cases hF
    rw [hQ]
    exact gq_iret hC rfl dX11_segmentAt_36
  · intro  ho_12
    subst ho_12
    have hF : (some ((-1 : Int32), (0 : Int32))) = some _ := hF
    refine gq_iconst hC (-1 : Int32) dX11_segmentAt_43 (by decide) ?_
    cases hF
    rw [hQ]
    exact gq_iret hC rfl dX11_segmentAt_44
theorem hy_X11_isBoundary : yX11_isBoundary.cls = RX11 ∧ yX11_isBoundary.cls ≠ "java/lang/invoke/MethodHandle" ∧ yX11_isBoundary.cls ≠ "java/lang/invoke/VarHandle" ∧ (parseMethodDescriptor yX11_isBoundary.desc).map (fun d => d.parameters.length) = some 1 := by decide +kernel
set_option maxRecDepth 20000 in
set_option maxHeartbeats 4000000 in
theorem k_X11_isBoundary (l : Launch) (D : va_G) (cI cJ cZ cO : ClassId) (z : Nat → Nat)   (h_t_ : Nat) (h_a : Nat) (h_fresh : Nat) (h_kept : Nat) (h_buffer : Nat) (h_worthFrom : Nat) (h_cutsFrom : Nat) (h_endFrom : Nat) (h_changes : Nat) (h_waysFrom : Nat) (h_costAt : Nat) (h_places : Nat) (h_isCut : Nat) (h_written : Nat) (x1 : Int32) (v_keptMany : Int32) (v_thrown : Int32) (v_buffered : Int32) (v_size : Int32) (v_at : Int32) (v_behind : Int32) (v_kind : Int32) (v_wrong : Int32) (v_wrongAt : Int32) (v_errorAt : Int32) (v_number : Int64) (v_toCut : Int32) (v_toLeave : Int32) (v_writtenMany : Int32) (v_a : Nat → Int64) (r_ : Int32) (hF : F_X11_isBoundary x1 v_a = some r_) : Mi l yX11_isBoundary wsX11_isBoundary (rmD 1) D (gq_ty cI cJ cZ cO) z [.ref h_t_, .int x1] [(h_t_, .inr (11, [.ref h_a, .ref h_fresh, .ref h_kept, .int v_keptMany, .int v_thrown, .ref h_buffer, .int v_buffered, .int v_size, .int v_at, .int v_behind, .int v_kind, .int v_wrong, .int v_wrongAt, .int v_errorAt, .long v_number, .ref h_worthFrom, .ref h_cutsFrom, .ref h_endFrom, .ref h_changes, .ref h_waysFrom, .int v_toCut, .int v_toLeave, .ref h_costAt, .ref h_places, .ref h_isCut, .ref h_written, .int v_writtenMany])), (h_a, .inl (cJ, 499, .inr (.inl v_a)))] r_ [(h_t_, .inr (11, [.ref h_a, .ref h_fresh, .ref h_kept, .int v_keptMany, .int v_thrown, .ref h_buffer, .int v_buffered, .int v_size, .int v_at, .int v_behind, .int v_kind, .int v_wrong, .int v_wrongAt, .int v_errorAt, .long v_number, .ref h_worthFrom, .ref h_cutsFrom, .ref h_endFrom, .ref h_changes, .ref h_waysFrom, .int v_toCut, .int v_toLeave, .ref h_costAt, .ref h_places, .ref h_isCut, .ref h_written, .int v_writtenMany])), (h_a, .inl (cJ, 499, .inr (.inl v_a)))] 0 0 := by
  refine Mi.of (cc := cX11_isBoundary) (maxL := 2) (by decide) rfl (Nat.le_of_ble_eq_true rfl) ⟨Nat.le_refl 0, Nat.le_refl 0⟩ ?_
  intro p e s m args below meth c A hC ha
  obtain ⟨Q, hQ⟩ : ∃ Q, Q = gq_Qi below D A args s r_ [(h_t_, .inr (11, [.ref h_a, .ref h_fresh, .ref h_kept, .int v_keptMany, .int v_thrown, .ref h_buffer, .int v_buffered, .int v_size, .int v_at, .int v_behind, .int v_kind, .int v_wrong, .int v_wrongAt, .int v_errorAt, .long v_number, .ref h_worthFrom, .ref h_cutsFrom, .ref h_endFrom, .ref h_changes, .ref h_waysFrom, .int v_toCut, .int v_toLeave, .ref h_costAt, .ref h_places, .ref h_isCut, .ref h_written, .int v_writtenMany])), (h_a, .inl (cJ, 499, .inr (.inl v_a)))] 0 0 := ⟨_, rfl⟩
  rw [← hQ]
  refine gq_loc [(0, .ref h_t_), (1, .int x1)] rfl ?_
  unfold F_X11_isBoundary at hF
  refine gq_iload_n hC 1 dX11_isBoundary_0 rfl rfl ?_
  refine gq_i2l hC dX11_isBoundary_1 ?_
  refine gq_lconst hC (0 : Int64) dX11_isBoundary_2 (by decide) ?_
  refine gq_aload_n hC 0 dX11_isBoundary_3 rfl rfl ?_
  obtain ⟨r_1, hc_, hF⟩ := ob1_e hF
  refine gq_callVi hC [0, 1] [(h_t_, .inr (11, [.ref h_a, .ref h_fresh, .ref h_kept, .int v_keptMany, .int v_thrown, .ref h_buffer, .int v_buffered, .int v_size, .int v_at, .int v_behind, .int v_kind, .int v_wrong, .int v_wrongAt, .int v_errorAt, .long v_number, .ref h_worthFrom, .ref h_cutsFrom, .ref h_endFrom, .ref h_changes, .ref h_waysFrom, .int v_toCut, .int v_toLeave, .ref h_costAt, .ref h_places, .ref h_isCut, .ref h_written, .int v_writtenMany])), (h_a, .inl (cJ, 499, .inr (.inl v_a)))] [] [.long (0 : Int64), .long (x1.toInt64)] (k_X11_many l D cI cJ cZ cO z h_t_ h_a h_fresh h_kept h_buffer h_worthFrom h_cutsFrom h_endFrom h_changes h_waysFrom h_costAt h_places h_isCut h_written v_keptMany v_thrown v_buffered v_size v_at v_behind v_kind v_wrong v_wrongAt v_errorAt v_number v_toCut v_toLeave v_writtenMany v_a r_1 hc_) gX11_isBoundary_X11_many rfl ⟨rfl, rfl⟩ hy_X11_many ⟨Nat.le_of_ble_eq_true rfl, Nat.le_of_ble_eq_true rfl⟩ rfl rfl rfl (q0 := 0) rfl rfl rfl (Nat.le_of_ble_eq_true rfl) rfl dX11_isBoundary_4 rfl rfl ?_
  refine gq_iconst hC (2 : Int32) dX11_isBoundary_7 (by decide) ?_
  refine gq_isub hC dX11_isBoundary_8 ?_
  refine gq_i2l hC dX11_isBoundary_9 ?_
  obtain ⟨r_2, hc_, hF⟩ := ob1_e hF
  refine gq_callSi hC [] [(h_t_, .inr (11, [.ref h_a, .ref h_fresh, .ref h_kept, .int v_keptMany, .int v_thrown, .ref h_buffer, .int v_buffered, .int v_size, .int v_at, .int v_behind, .int v_kind, .int v_wrong, .int v_wrongAt, .int v_errorAt, .long v_number, .ref h_worthFrom, .ref h_cutsFrom, .ref h_endFrom, .ref h_changes, .ref h_waysFrom, .int v_toCut, .int v_toLeave, .ref h_costAt, .ref h_places, .ref h_isCut, .ref h_written, .int v_writtenMany])), (h_a, .inl (cJ, 499, .inr (.inl v_a)))] [.long (x1.toInt64), .long (0 : Int64), .long ((r_1 - (2 : Int32)).toInt64)] [] (k_X11_isIn l D cI cJ cZ cO z  (x1.toInt64) (0 : Int64) ((r_1 - (2 : Int32)).toInt64) r_2 hc_) gX11_isBoundary_X11_isIn rfl ⟨rfl, rfl⟩ hy_X11_isIn rfl ⟨Nat.le_of_ble_eq_true rfl, Nat.le_of_ble_eq_true rfl⟩ rfl rfl rfl (Nat.le_of_ble_eq_true rfl) rfl dX11_isBoundary_10 rfl rfl ?_
  obtain ⟨hb_3, hF⟩ := gb_e hF
  cases hF
  rw [hQ]
  exact gq_iret hC (gb_n hb_3) dX11_isBoundary_13
theorem hy_X11_change : yX11_change.cls = RX11 ∧ yX11_change.cls ≠ "java/lang/invoke/MethodHandle" ∧ yX11_change.cls ≠ "java/lang/invoke/VarHandle" ∧ (parseMethodDescriptor yX11_change.desc).map (fun d => d.parameters.length) = some 1 := by decide +kernel
set_option maxRecDepth 20000 in
set_option maxHeartbeats 4000000 in
theorem k_X11_change (l : Launch) (D : va_G) (cI cJ cZ cO : ClassId) (z : Nat → Nat)   (h_t_ : Nat) (h_a : Nat) (h_fresh : Nat) (h_kept : Nat) (h_buffer : Nat) (h_worthFrom : Nat) (h_cutsFrom : Nat) (h_endFrom : Nat) (h_changes : Nat) (h_waysFrom : Nat) (h_costAt : Nat) (h_places : Nat) (h_isCut : Nat) (h_written : Nat) (x1 : Int32) (v_keptMany : Int32) (v_thrown : Int32) (v_buffered : Int32) (v_size : Int32) (v_at : Int32) (v_behind : Int32) (v_kind : Int32) (v_wrong : Int32) (v_wrongAt : Int32) (v_errorAt : Int32) (v_number : Int64) (v_toCut : Int32) (v_toLeave : Int32) (v_writtenMany : Int32) (v_a : Nat → Int64) (r_ : Int32) (w_thrown : Int32) (hF : F_X11_change x1 v_thrown v_a = some (r_, w_thrown)) : Mi l yX11_change wsX11_change (rmD 4) D (gq_ty cI cJ cZ cO) z [.ref h_t_, .int x1] [(h_t_, .inr (11, [.ref h_a, .ref h_fresh, .ref h_kept, .int v_keptMany, .int v_thrown, .ref h_buffer, .int v_buffered, .int v_size, .int v_at, .int v_behind, .int v_kind, .int v_wrong, .int v_wrongAt, .int v_errorAt, .long v_number, .ref h_worthFrom, .ref h_cutsFrom, .ref h_endFrom, .ref h_changes, .ref h_waysFrom, .int v_toCut, .int v_toLeave, .ref h_costAt, .ref h_places, .ref h_isCut, .ref h_written, .int v_writtenMany])), (h_a, .inl (cJ, 499, .inr (.inl v_a)))] r_ [(h_t_, .inr (11, [.ref h_a, .ref h_fresh, .ref h_kept, .int v_keptMany, .int w_thrown, .ref h_buffer, .int v_buffered, .int v_size, .int v_at, .int v_behind, .int v_kind, .int v_wrong, .int v_wrongAt, .int v_errorAt, .long v_number, .ref h_worthFrom, .ref h_cutsFrom, .ref h_endFrom, .ref h_changes, .ref h_waysFrom, .int v_toCut, .int v_toLeave, .ref h_costAt, .ref h_places, .ref h_isCut, .ref h_written, .int v_writtenMany])), (h_a, .inl (cJ, 499, .inr (.inl v_a)))] 0 0 := by
  refine Mi.of (cc := cX11_change) (maxL := 2) (by decide) rfl (Nat.le_of_ble_eq_true rfl) ⟨Nat.le_refl 0, Nat.le_refl 0⟩ ?_
  intro p e s m args below meth c A hC ha
  have hin_X11 : ∀ w ∈ wsX110, w ∈ wsX11_change := by decide +kernel
  have hw_79 : Cond.fieldLink RX11 79 (TX11 4).1 (TX11 4).2.1 (TX11 4).2.2.1 ∈ wsX11_change := by decide +kernel
  obtain ⟨Q, hQ⟩ : ∃ Q, Q = gq_Qi below D A args s r_ [(h_t_, .inr (11, [.ref h_a, .ref h_fresh, .ref h_kept, .int v_keptMany, .int w_thrown, .ref h_buffer, .int v_buffered, .int v_size, .int v_at, .int v_behind, .int v_kind, .int v_wrong, .int v_wrongAt, .int v_errorAt, .long v_number, .ref h_worthFrom, .ref h_cutsFrom, .ref h_endFrom, .ref h_changes, .ref h_waysFrom, .int v_toCut, .int v_toLeave, .ref h_costAt, .ref h_places, .ref h_isCut, .ref h_written, .int v_writtenMany])), (h_a, .inl (cJ, 499, .inr (.inl v_a)))] 0 0 := ⟨_, rfl⟩
  rw [← hQ]
  refine gq_loc [(0, .ref h_t_), (1, .int x1)] rfl ?_
  have jb14 : ∀ (st_1 : Int32) (v_thrown_2 : Int32), F_X11_change_b14 x1 st_1 v_thrown_2 v_a = some (r_, w_thrown) → Gx p l e (rmD 4) s m args below meth c D A 2 Q 0 0 14 [(0, .ref h_t_), (1, .int x1)] [.int st_1, .ref h_t_] [(h_t_, .inr (11, [.ref h_a, .ref h_fresh, .ref h_kept, .int v_keptMany, .int v_thrown_2, .ref h_buffer, .int v_buffered, .int v_size, .int v_at, .int v_behind, .int v_kind, .int v_wrong, .int v_wrongAt, .int v_errorAt, .long v_number, .ref h_worthFrom, .ref h_cutsFrom, .ref h_endFrom, .ref h_changes, .ref h_waysFrom, .int v_toCut, .int v_toLeave, .ref h_costAt, .ref h_places, .ref h_isCut, .ref h_written, .int v_writtenMany])), (h_a, .inl (cJ, 499, .inr (.inl v_a)))] := by
    intro st_1 v_thrown_2 hF
    unfold F_X11_change_b14 at hF
    refine gq_put1 hC (kf := 4) 0 [(h_t_, .inr (11, [.ref h_a, .ref h_fresh, .ref h_kept, .int v_keptMany, .int st_1, .ref h_buffer, .int v_buffered, .int v_size, .int v_at, .int v_behind, .int v_kind, .int v_wrong, .int v_wrongAt, .int v_errorAt, .long v_number, .ref h_worthFrom, .ref h_cutsFrom, .ref h_endFrom, .ref h_changes, .ref h_waysFrom, .int v_toCut, .int v_toLeave, .ref h_costAt, .ref h_places, .ref h_isCut, .ref h_written, .int v_writtenMany])), (h_a, .inl (cJ, 499, .inr (.inl v_a)))] tyX11 tyX11_ok nmX11 hin_X11 rfl rfl (by decide) hw_79 rfl rfl rfl (Nat.le_of_ble_eq_true rfl) dX11_change_14 rfl ?_
    refine gq_aload_n hC 0 dX11_change_17 rfl rfl ?_
    refine gq_get hC (kf := 4) 0 hin_X11 rfl rfl (by decide) hw_79 rfl dX11_change_18 ?_
    refine gq_if_le hC 28 dX11_change_21 (by decide) (fun hc_4 => ?_) (fun hc_4 => ?_)
    · have hF := (if_pos hc_4).symm.trans hF
      refine gq_aload_n hC 0 dX11_change_28 rfl rfl ?_
      refine gq_iload_n hC 1 dX11_change_29 rfl rfl ?_
      obtain ⟨r_3, hc_, hF⟩ := ob1_e hF
      refine gq_callVi hC [0, 1] [(h_t_, .inr (11, [.ref h_a, .ref h_fresh, .ref h_kept, .int v_keptMany, .int st_1, .ref h_buffer, .int v_buffered, .int v_size, .int v_at, .int v_behind, .int v_kind, .int v_wrong, .int v_wrongAt, .int v_errorAt, .long v_number, .ref h_worthFrom, .ref h_cutsFrom, .ref h_endFrom, .ref h_changes, .ref h_waysFrom, .int v_toCut, .int v_toLeave, .ref h_costAt, .ref h_places, .ref h_isCut, .ref h_written, .int v_writtenMany])), (h_a, .inl (cJ, 499, .inr (.inl v_a)))] [.int x1] [] (k_X11_changeOf l D cI cJ cZ cO z h_t_ h_a h_fresh h_kept h_buffer h_worthFrom h_cutsFrom h_endFrom h_changes h_waysFrom h_costAt h_places h_isCut h_written x1 v_keptMany st_1 v_buffered v_size v_at v_behind v_kind v_wrong v_wrongAt v_errorAt v_number v_toCut v_toLeave v_writtenMany v_a r_3 hc_) gX11_change_X11_changeOf rfl ⟨rfl, rfl⟩ hy_X11_changeOf ⟨Nat.le_of_ble_eq_true rfl, Nat.le_of_ble_eq_true rfl⟩ rfl rfl rfl (q0 := 0) rfl rfl rfl (Nat.le_of_ble_eq_true rfl) rfl dX11_change_30 rfl rfl ?_
      cases hF
      rw [hQ]
      exact gq_iret hC rfl dX11_change_33
    · have hF := (if_neg hc_4).symm.trans hF
      refine gq_iconst hC (0 : Int32) dX11_change_24 (by decide) ?_
      refine gq_goto hC 33 dX11_change_25 (by decide) ?_
      cases hF
      rw [hQ]
      exact gq_iret hC rfl dX11_change_33
  unfold F_X11_change at hF
  refine gq_aload_n hC 0 dX11_change_0 rfl rfl ?_
  refine gq_aload_n hC 0 dX11_change_1 rfl rfl ?_
  refine gq_iload_n hC 1 dX11_change_2 rfl rfl ?_
  obtain ⟨r_5, hc_, hF⟩ := ob1_e hF
  refine gq_callVi hC [0, 1] [(h_t_, .inr (11, [.ref h_a, .ref h_fresh, .ref h_kept, .int v_keptMany, .int v_thrown, .ref h_buffer, .int v_buffered, .int v_size, .int v_at, .int v_behind, .int v_kind, .int v_wrong, .int v_wrongAt, .int v_errorAt, .long v_number, .ref h_worthFrom, .ref h_cutsFrom, .ref h_endFrom, .ref h_changes, .ref h_waysFrom, .int v_toCut, .int v_toLeave, .ref h_costAt, .ref h_places, .ref h_isCut, .ref h_written, .int v_writtenMany])), (h_a, .inl (cJ, 499, .inr (.inl v_a)))] [.int x1] [.ref h_t_] (k_X11_isBoundary l D cI cJ cZ cO z h_t_ h_a h_fresh h_kept h_buffer h_worthFrom h_cutsFrom h_endFrom h_changes h_waysFrom h_costAt h_places h_isCut h_written x1 v_keptMany v_thrown v_buffered v_size v_at v_behind v_kind v_wrong v_wrongAt v_errorAt v_number v_toCut v_toLeave v_writtenMany v_a r_5 hc_) gX11_change_X11_isBoundary rfl ⟨rfl, rfl⟩ hy_X11_isBoundary ⟨Nat.le_of_ble_eq_true rfl, Nat.le_of_ble_eq_true rfl⟩ rfl rfl rfl (q0 := 0) rfl rfl rfl (Nat.le_of_ble_eq_true rfl) rfl dX11_change_3 rfl rfl ?_
  refine gq_if_eq hC 13 dX11_change_6 (by decide) (fun hc_6 => ?_) (fun hc_6 => ?_)
  · have hF := (if_pos hc_6).symm.trans hF
    refine gq_iconst hC (1 : Int32) dX11_change_13 (by decide) ?_
    exact jb14 (1 : Int32) v_thrown hF
  · have hF := (if_neg hc_6).symm.trans hF
    refine gq_iconst hC (0 : Int32) dX11_change_9 (by decide) ?_
    refine gq_goto hC 14 dX11_change_10 (by decide) ?_
    exact jb14 (0 : Int32) v_thrown hF
