/-! the class: rows of numbers; written by cls.py -/
theorem I_ofNat (n : Nat) : Int32.ofNat n = I (n : Int) := (Int32.ofInt_eq_ofNat).symm
theorem I_nlt (z : Int) : ¬ I z < I z := by rw [Int32.lt_iff_toInt_lt]; omega
theorem I_nneg (n : Nat) (h : n ≤ 2147483647) : ¬ I (n : Int) < 0 := by rw [show (0 : Int32) = I 0 from rfl, I_lt (by omega) (by omega)]; omega
theorem cpy_ext {E : Env3} {a b n : Nat} {g h : S} {H : Heap} (hP : va_P E.1 vwCl ([(a, iA E n g), (b, iA E n h)].set 1 (b, .inl (E.2.1, n, .inl (va_cpy (fun i => I (g i)) (fun i => I (h i)) (I 0).toNatClampNeg (I 0).toNatClampNeg n)))) H) : va_P E.1 vwCl [(a, iA E n g), (b, iA E n g)] H := by
  intro k q hk
  match k, hk with
  | 0, hk => exact hP 0 q hk
  | 1, hk =>
    cases hk
    have h1 := hP 1 _ rfl
    have e : vp_cell E.2.1 (n, .inl (va_cpy (fun i => I (g i)) (fun i => I (h i)) (I 0).toNatClampNeg (I 0).toNatClampNeg n)) = vp_cell E.2.1 (n, .inl (fun i => I (g i))) := by
      rw [vp_cell_i, vp_cell_i]
      unfold arrV
      congr 1
      congr 1
      funext j
      have hj := j.isLt
      show Value.int (va_cpy (fun i => I (g i)) (fun i => I (h i)) 0 0 n j.val) = Value.int (I (g j.val))
      unfold va_cpy
      rw [if_pos (by omega)]
      congr 3
      omega
    show H[b]? = some (vp_cell E.2.1 (n, .inl (fun i => I (g i))))
    rw [← e]
    exact h1
  | k + 2, hk => simp at hk
set_option maxHeartbeats 4000000 in
set_option maxRecDepth 100000 in
theorem m_X5_read (l : Launch) (E : Env3) (a n k : Nat) (g : S) (hk : k < n) (hn : n ≤ 2000000) : Met l yX5_read (Cond.code yX5_read cX5_read 2 (some .int) :: ALL) ({ frames := 0, cells := 0, slots := 0, locals := 0 }) (pR [.ref a, .int (I (k : Int))] E [(a, iA E n g)]) (qS (some (.int (I (g k))))) 0 0 (fun _ => False) := by
  refine mk_met (by decide) rfl (Nat.le_of_ble_eq_true rfl) ?_
  intro p e s m args below meth c hx hb hrt hml hts hown hlocks hnm hP hK ls hl
  have hown : s.vm.findClass RX5 = some m.cls := hown
  have hl : lv_has ls 2 [(0, .ref a), (1, .int (I (k : Int)))] := hl
  have hS : va_S (fun _ => False) s.heap s.heap [] := va_S.rf
  refine lv_iload_n hx hb dX5_read_0 rfl (lv_lk hl rfl) ?_
  refine iv_if_lt (tgt := 16) hx hb dX5_read_1 (by decide) (by omega) (fun c_1 => by exfalso; omega) (fun c_1 => ?_)
  refine lv_iload_n hx hb dX5_read_4 rfl (lv_lk hl rfl) ?_
  refine lv_aload_n hx hb dX5_read_5 rfl (lv_lk hl rfl) ?_
  refine va_alen hx hb hK.1 hP 0 0 rfl rfl (v := I (n : Int)) (I_ofNat _) dX5_read_6 ?_
  refine iv_icmp_ge (tgt := 16) hx hb dX5_read_7 (by decide) (by omega) (by omega) (fun c_7 => by exfalso; omega) (fun c_7 => ?_)
  refine lv_aload_n hx hb dX5_read_10 rfl (lv_lk hl rfl) ?_
  refine lv_iload_n hx hb dX5_read_11 rfl (lv_lk hl rfl) ?_
  refine iv_iald hx hb hK hP 0 rfl (k) (by omega) (by omega) dX5_read_12 ?_
  refine lv_goto (tgt := 17) hx hb dX5_read_13 (by decide) ?_
  exact W.iret hx hb hrt (fun t ht hW => ⟨rfl, ht⟩) hS.2.2 dX5_read_17 hlocks
set_option maxHeartbeats 4000000 in
set_option maxRecDepth 100000 in
theorem m_X5_write (l : Launch) (E : Env3) (a n k : Nat) (g : S) (v : Int) (hk : k < n) (hn : n ≤ 2000000) : Met l yX5_write (Cond.code yX5_write cX5_write 3 none :: ALL) ({ frames := 0, cells := 0, slots := 0, locals := 0 }) (pR [.ref a, .int (I (k : Int)), .int (I v)] E [(a, iA E n g)]) (qW none E [(a, iA E n g)] [(a, iA E n (up g k v))]) 0 0 (adIn [(a, iA E n g)]) := by
  refine mk_met (by decide) rfl (Nat.le_of_ble_eq_true rfl) ?_
  intro p e s m args below meth c hx hb hrt hml hts hown hlocks hnm hP hK ls hl
  have hown : s.vm.findClass RX5 = some m.cls := hown
  have hl : lv_has ls 3 [(0, .ref a), (1, .int (I (k : Int))), (2, .int (I v))] := hl
  have hD : va_D (adIn [(a, iA E n g)]) [(a, iA E n g)] := D_1
  have hS : va_S (adIn [(a, iA E n g)]) s.heap s.heap [] := va_S.rf
  refine lv_iload_n hx hb dX5_write_0 rfl (lv_lk hl rfl) ?_
  refine iv_if_lt (tgt := 14) hx hb dX5_write_1 (by decide) (by omega) (fun c_1 => by exfalso; omega) (fun c_1 => ?_)
  refine lv_iload_n hx hb dX5_write_4 rfl (lv_lk hl rfl) ?_
  refine lv_aload_n hx hb dX5_write_5 rfl (lv_lk hl rfl) ?_
  refine va_alen hx hb hK.1 hP 0 0 rfl rfl (v := I (n : Int)) (I_ofNat _) dX5_write_6 ?_
  refine iv_icmp_ge (tgt := 14) hx hb dX5_write_7 (by decide) (by omega) (by omega) (fun c_7 => by exfalso; omega) (fun c_7 => ?_)
  refine lv_aload_n hx hb dX5_write_10 rfl (lv_lk hl rfl) ?_
  refine lv_iload_n hx hb dX5_write_11 rfl (lv_lk hl rfl) ?_
  refine lv_iload_n hx hb dX5_write_12 rfl (lv_lk hl rfl) ?_
  refine iv_iast hx hb hK hP (dm hD rfl) hS 0 rfl (k) (by omega) (by omega) dX5_write_13 [(a, iA E n (up g k v))] (rfl) (fun H locs hP hS => ?_)
  exact W.vret hx hb hrt (fun t ht hW => ⟨rfl, by rw [ht]; exact hP, hS.F ht⟩) hS.2.2 dX5_write_14 hlocks
set_option maxHeartbeats 4000000 in
set_option maxRecDepth 100000 in
theorem m_X5_copyRow (l : Launch) (E : Env3) (a b n : Nat) (g h : S) (hab : a ≠ b) (hn : n ≤ 2000000) : Met l yX5_copyRow (Cond.code yX5_copyRow cX5_copyRow 2 none :: ALL) ({ frames := 1, cells := 0, slots := 0, locals := 64 }) (pR [.ref a, .ref b] E [(a, iA E n g), (b, iA E n h)]) (qW none E [(a, iA E n g), (b, iA E n h)] [(a, iA E n g), (b, iA E n g)]) 0 0 (adIn [(a, iA E n g), (b, iA E n h)]) := by
  refine mk_met (by decide) rfl (Nat.le_of_ble_eq_true rfl) ?_
  intro p e s m args below meth c hx hb hrt hml hts hown hlocks hnm hP hK ls hl
  have hown : s.vm.findClass RX5 = some m.cls := hown
  have hl : lv_has ls 2 [(0, .ref a), (1, .ref b)] := hl
  have hD : va_D (adIn [(a, iA E n g), (b, iA E n h)]) [(a, iA E n g), (b, iA E n h)] := D_2 hab
  have hS : va_S (adIn [(a, iA E n g), (b, iA E n h)]) s.heap s.heap [] := va_S.rf
  refine lv_aload_n hx hb dX5_copyRow_0 rfl (lv_lk hl rfl) ?_
  refine iv_iconst hx hb dX5_copyRow_1 ?_
  refine lv_aload_n hx hb dX5_copyRow_2 rfl (lv_lk hl rfl) ?_
  refine iv_iconst hx hb dX5_copyRow_3 ?_
  refine lv_aload_n hx hb dX5_copyRow_4 rfl (lv_lk hl rfl) ?_
  refine va_alen hx hb hK.1 hP 0 0 rfl rfl (v := I (n : Int)) (I_ofNat _) dX5_copyRow_5 ?_
  refine lv_aload_n hx hb dX5_copyRow_6 rfl (lv_lk hl rfl) ?_
  refine va_alen hx hb hK.1 hP 1 0 rfl rfl (v := I (n : Int)) (I_ofNat _) dX5_copyRow_7 ?_
  refine va_mmin hx hb (hml.trans hl.1.symm) hown (hts _ mlm_X5) (hts _ st_min) (hts _ it_J9) (hts _ cd_min) (Nat.le_of_ble_eq_true rfl) (Nat.le_of_ble_eq_true rfl) (Nat.zero_le _) (Nat.zero_le _) dX5_copyRow_8 ?_
  rw [if_neg (I_nlt _)]
  refine va_copyi hx hb (hml.trans hl.1.symm) hown (hts _ ml_cp) (hts _ nt_cp) (hts _ st_cp) (hts _ it_J10) hK.1 hP (dm hD rfl) hS 0 1 0 0 rfl rfl rfl rfl rfl (by decide) (by decide) (I_nneg n (by omega)) (by rw [I_nat (by omega)]; exact Nat.le_of_eq (Nat.zero_add n)) (by rw [I_nat (by omega)]; exact Nat.le_of_eq (Nat.zero_add n)) (fun _ _ => rfl) (Nat.le_of_ble_eq_true rfl) (by decide +kernel) dX5_copyRow_11 (fun H locs hP _ hS => ?_)
  rw [I_nat (by omega)] at hP
  have hP : va_P E.1 vwCl [(a, iA E n g), (b, iA E n g)] H := cpy_ext hP
  exact W.vret hx hb hrt (fun t ht hW => ⟨rfl, by rw [ht]; exact hP, hS.F ht⟩) hS.2.2 dX5_copyRow_14 hlocks
