/-! Strings -/
def sl (i : Nat) : Nat := slen.getD i 0
def wch (i j : Nat) : Int32 := (sbyt.getD i []).getD j 0
theorem sl_le {i : Nat} (hi : i < 6) : sl i ≤ 4 := by
  have : i = 0 ∨ i = 1 ∨ i = 2 ∨ i = 3 ∨ i = 4 ∨ i = 5 := by omega
  rcases this with rfl | rfl | rfl | rfl | rfl | rfl <;> decide
theorem wch_ok : ∀ i, i < 6 → ∀ j, j < 4 → (((wch i j &&& nI 255).toUInt32 % 65536).toInt32 = wch i j) := by decide +kernel
theorem wch_nar {i j : Nat} (hi : i < 6) (hj : j < 4) : narrow .char (.int (wch i j)) = .int (wch i j) := by
  have h6 : i = 0 ∨ i = 1 ∨ i = 2 ∨ i = 3 ∨ i = 4 ∨ i = 5 := by omega
  have this : j = 0 ∨ j = 1 ∨ j = 2 ∨ j = 3 := by omega
  rcases h6 with rfl | rfl | rfl | rfl | rfl | rfl <;> rcases this with rfl | rfl | rfl | rfl <;> rfl
set_option maxRecDepth 20000 in
theorem t_ckIdx {g : Ev} {S : St} {iv : IV} {lw : LW} {j m : Nat} (hj : j < m) (hm : m ≤ 100) : CP g mJ3_checkIndex_8e157 [.int (nI j), .int (nI m), .float 0] S iv lw (.int (nI j)) := by
  refine CT_ofQF rfl (by decide +kernel) (Nat.le_of_ble_eq_true rfl) (lv := [(0, .int (nI j)), (1, .int (nI m)), (2, .float 0)]) rfl (fun Q hQ => ?_)
  refine V_iload_n (i := 0) dJ3_checkIndex_8e157_0 rfl 0 rfl ?_
  refine V_if_lt (tgt := 9) dJ3_checkIndex_8e157_1 rfl (fun q => absurd q (nI_pos (by omega))) (fun _ => ?_)
  refine V_iload_n (i := 0) dJ3_checkIndex_8e157_4 rfl 0 rfl ?_
  refine V_iload_n (i := 1) dJ3_checkIndex_8e157_5 rfl 1 rfl ?_
  refine V_icmp_lt (tgt := 16) dJ3_checkIndex_8e157_6 rfl (fun h6 => ?_) (fun h6 => ?_)
  · have h6 : j < m := (nI_ltI (by omega) (by omega)).mp h6
    refine V_iload_n (i := 0) dJ3_checkIndex_8e157_16 rfl 0 rfl ?_
    refine V_iret dJ3_checkIndex_8e157_17 ⟨rfl, rfl⟩ (Nat.zero_le _) (Nat.zero_le _) ?_
    subst hQ
    exact ⟨rfl, rfl⟩
  · have h6 : ¬ j < m := fun q => h6 ((nI_ltI (by omega) (by omega)).mpr q)
    exact absurd h6 (by omega)
set_option maxRecDepth 20000 in
theorem t_ckIdx0 {g : Ev} {S : St} {iv : IV} {lw : LW} {j m : Nat} (hj : j < m) (hm : m ≤ 100) : CN g mJ0_checkIndex_df160 [.int (nI j), .int (nI m)] S iv lw (fun iv2 lw2 => iv = iv2 ∧ lw = lw2) := by
  refine CT_ofQF rfl (by decide +kernel) (Nat.le_of_ble_eq_true rfl) (lv := [(0, .int (nI j)), (1, .int (nI m))]) rfl (fun Q hQ => ?_)
  refine V_iload_n (i := 0) dJ0_checkIndex_df160_0 rfl 0 rfl ?_
  refine V_iload_n (i := 1) dJ0_checkIndex_df160_1 rfl 1 rfl ?_
  refine V_getsF dJ0_checkIndex_df160_2 mw_532 ?_
  refine M_callSp (As := [.int (nI j), .int (nI m), .float 0]) (st := []) dJ0_checkIndex_df160_5 ls_J0_1059 ⟨by decide, by decide⟩ ⟨rfl, rfl⟩ rfl (Nat.le_of_ble_eq_true rfl) (t_ckIdx hj hm) ?_
  refine V_pop dJ0_checkIndex_df160_8 rfl ?_
  refine V_vret dJ0_checkIndex_df160_9 ⟨rfl, rfl⟩ (Nat.zero_le _) (Nat.zero_le _) ?_
  subst hQ
  exact ⟨_, _, rfl, rfl, rfl, rfl⟩
set_option maxRecDepth 20000 in
theorem t_coder {g : Ev} {S : St} {iv : IV} {lw : LW} {i : Nat} (hi : i < 6) : CP g mJ0_coder_7d493 [.ref (100000 + (1 + i))] S iv lw (.int (nI 0)) := by
  refine CT_ofQF rfl (by decide +kernel) (Nat.le_of_ble_eq_true rfl) (lv := [(0, .ref (100000 + (1 + i)))]) rfl (fun Q hQ => ?_)
  refine V_getsC dJ0_coder_7d493_0 mw_516 ?_
  refine V_if_eq (tgt := 13) dJ0_coder_7d493_3 rfl (fun q => absurd q (by decide)) (fun _ => ?_)
  refine V_aload_n (i := 0) dJ0_coder_7d493_6 rfl 0 rfl ?_
  refine V_strcod (i := i) dJ0_coder_7d493_7 hi mw_1654 ?_
  refine V_goto (tgt := 14) dJ0_coder_7d493_10 rfl ?_
  refine V_zret dJ0_coder_7d493_14 ⟨rfl, rfl⟩ (by rfl) (Nat.zero_le _) (Nat.zero_le _) ?_
  subst hQ
  exact ⟨rfl, rfl⟩
set_option maxRecDepth 20000 in
theorem t_isLatin1 {g : Ev} {S : St} {iv : IV} {lw : LW} {i : Nat} (hi : i < 6) : CP g mJ0_isLatin1_aae02 [.ref (100000 + (1 + i))] S iv lw (.int (nI 1)) := by
  refine CT_ofQF rfl (by decide +kernel) (Nat.le_of_ble_eq_true rfl) (lv := [(0, .ref (100000 + (1 + i)))]) rfl (fun Q hQ => ?_)
  refine V_getsC dJ0_isLatin1_aae02_0 mw_516 ?_
  refine V_if_eq (tgt := 17) dJ0_isLatin1_aae02_3 rfl (fun q => absurd q (by decide)) (fun _ => ?_)
  refine V_aload_n (i := 0) dJ0_isLatin1_aae02_6 rfl 0 rfl ?_
  refine V_strcod (i := i) dJ0_isLatin1_aae02_7 hi mw_1654 ?_
  refine V_if_ne (tgt := 17) dJ0_isLatin1_aae02_10 rfl (fun q => absurd (by decide) q) (fun _ => ?_)
  refine V_iconst (v := nI 1) dJ0_isLatin1_aae02_13 rfl ?_
  refine V_goto (tgt := 18) dJ0_isLatin1_aae02_14 rfl ?_
  refine V_zret dJ0_isLatin1_aae02_18 ⟨rfl, rfl⟩ (by rfl) (Nat.zero_le _) (Nat.zero_le _) ?_
  subst hQ
  exact ⟨rfl, rfl⟩
set_option maxRecDepth 20000 in
theorem t_slen {g : Ev} {S : St} {iv : IV} {lw : LW} {i : Nat} (hi : i < 6) : CP g mJ0_length_8abf5 [.ref (100000 + (1 + i))] S iv lw (.int (nI (sl i))) := by
  refine CT_ofQF rfl (by decide +kernel) (Nat.le_of_ble_eq_true rfl) (lv := [(0, .ref (100000 + (1 + i)))]) rfl (fun Q hQ => ?_)
  have hl := sl_le hi
  refine V_aload_n (i := 0) dJ0_length_8abf5_0 rfl 0 rfl ?_
  refine V_strval (i := i) dJ0_length_8abf5_1 hi mw_1653 ?_
  refine V_strlen (i := i) dJ0_length_8abf5_4 hi ?_
  refine V_aload_n (i := 0) dJ0_length_8abf5_5 rfl 0 rfl ?_
  refine M_callTp (As := []) (st := [.int (nI (slen.getD i 0))]) dJ0_length_8abf5_6 lv_J0_335 ⟨by decide, by decide⟩ ⟨rfl, rfl⟩ rfl (hi) rfl (Nat.le_of_ble_eq_true rfl) (t_coder hi) ?_
  refine V_ishr dJ0_length_8abf5_9 ?_
  refine M_top (x2 := nI (sl i)) ((nI_shr (n := 0) (by omega) (show sl i < 2 ^ 31 by omega)).trans (by rw [Nat.pow_zero, Nat.div_one])) ?_
  refine V_iret dJ0_length_8abf5_10 ⟨rfl, rfl⟩ (Nat.zero_le _) (Nat.zero_le _) ?_
  subst hQ
  exact ⟨rfl, rfl⟩
set_option maxRecDepth 20000 in
theorem t_charAt1 {g : Ev} {S : St} {iv : IV} {lw : LW} {i : Nat} (hi : i < 6) {j : Nat} (hj : j < sl i) : CP g mJ1_charAt_3b067 [.ref (100000 + (51 + i)), .int (nI j)] S iv lw (.int (wch i j)) := by
  refine CT_ofQF rfl (by decide +kernel) (Nat.le_of_ble_eq_true rfl) (lv := [(0, .ref (100000 + (51 + i))), (1, .int (nI j))]) rfl (fun Q hQ => ?_)
  have hl := sl_le hi
  refine V_iload_n (i := 1) dJ1_charAt_3b067_0 rfl 1 rfl ?_
  refine V_aload_n (i := 0) dJ1_charAt_3b067_1 rfl 0 rfl ?_
  refine V_strlen (i := i) dJ1_charAt_3b067_2 hi ?_
  refine M_callSn (As := [.int (nI j), .int (nI (slen.getD i 0))]) (st := []) dJ1_charAt_3b067_3 ls_J1_9 ⟨by decide, by decide⟩ ⟨rfl, rfl⟩ rfl (Nat.le_of_ble_eq_true rfl) (t_ckIdx0 (m := sl i) hj (by omega)) (fun iv3 lw3 q3 => ?_)
  obtain ⟨rfl, rfl⟩ := q3
  refine V_aload_n (i := 0) dJ1_charAt_3b067_6 rfl 0 rfl ?_
  refine V_iload_n (i := 1) dJ1_charAt_3b067_7 rfl 1 rfl ?_
  refine V_strbld (i := i) dJ1_charAt_3b067_8 hi (show vp_in (nI j) (sl i) from vp_in_n hj (by omega)) ?_
  refine M_top (x2 := wch i j) (by unfold wch; rw [nI_clamp (by omega)]) ?_
  refine V_sipush (v := nI 255) dJ1_charAt_3b067_9 rfl ?_
  refine V_iand dJ1_charAt_3b067_12 ?_
  refine V_i2c dJ1_charAt_3b067_13 ?_
  refine M_top (x2 := wch i j) (wch_ok i hi j (by omega)) ?_
  refine V_zret dJ1_charAt_3b067_14 ⟨rfl, rfl⟩ (wch_nar hi (by omega)) (Nat.zero_le _) (Nat.zero_le _) ?_
  subst hQ
  exact ⟨rfl, rfl⟩
set_option maxRecDepth 20000 in
theorem t_charAt {g : Ev} {S : St} {iv : IV} {lw : LW} {i : Nat} (hi : i < 6) {j : Nat} (hj : j < sl i) : CP g mJ0_charAt_5068e [.ref (100000 + (1 + i)), .int (nI j)] S iv lw (.int (wch i j)) := by
  refine CT_ofQF rfl (by decide +kernel) (Nat.le_of_ble_eq_true rfl) (lv := [(0, .ref (100000 + (1 + i))), (1, .int (nI j))]) rfl (fun Q hQ => ?_)
  have hl := sl_le hi
  refine V_aload_n (i := 0) dJ0_charAt_5068e_0 rfl 0 rfl ?_
  refine M_callTp (As := []) (st := []) dJ0_charAt_5068e_1 lv_J0_492 ⟨by decide, by decide⟩ ⟨rfl, rfl⟩ rfl (hi) rfl (Nat.le_of_ble_eq_true rfl) (t_isLatin1 hi) ?_
  refine V_if_eq (tgt := 16) dJ0_charAt_5068e_4 rfl (fun q => absurd q (by decide)) (fun _ => ?_)
  refine V_aload_n (i := 0) dJ0_charAt_5068e_7 rfl 0 rfl ?_
  refine V_strval (i := i) dJ0_charAt_5068e_8 hi mw_1653 ?_
  refine V_iload_n (i := 1) dJ0_charAt_5068e_11 rfl 1 rfl ?_
  refine M_callSp (As := [.ref (100000 + (51 + i)), .int (nI j)]) (st := []) dJ0_charAt_5068e_12 ls_J0_495 ⟨by decide, by decide⟩ ⟨rfl, rfl⟩ rfl (Nat.le_of_ble_eq_true rfl) (t_charAt1 hi hj) ?_
  refine V_zret dJ0_charAt_5068e_15 ⟨rfl, rfl⟩ (wch_nar hi (by omega)) (Nat.zero_le _) (Nat.zero_le _) ?_
  subst hQ
  exact ⟨rfl, rfl⟩
