/-! the model: where a car looks -/
def plZ (n ru re p i : Int) : Int := if ru = 0 then (if p + i < n then p + i else -99) else if ru = 1 then (if i ≤ re then p - i else if p + i - re < n then p + i - re else -99) else if ru = 2 then (if i ≤ re then p + i else -99) else if 2 * re < i then -99 else if i % 2 = 1 then p - (i + 1) / 2 else p + i / 2
def remZ (n ru re p i : Int) : List Int := if ru = 1 then (if i ≤ re then dnL (p - i) (p - re) ++ upL (p + 1) (n - 1) else upL (p + i - re) (n - 1)) else if ru = 2 then upL (p + i) (p + re) else if ru = 3 then (if i % 2 = 1 then arL p ((i + 1) / 2) re else if i ≤ 2 * re then (p + i / 2) :: arL p (i / 2 + 1) re else []) else upL (p + i) (n - 1)
theorem remZ_0 {n ru re p : Int} (h : 0 ≤ re) : remZ n ru re p 0 = pseq ru re n p := by
  unfold remZ pseq
  by_cases h1 : ru = 1
  · rw [if_pos h1, if_pos h1, if_pos h, Int.sub_zero]
  · rw [if_neg h1, if_neg h1]
    by_cases h2 : ru = 2
    · rw [if_pos h2, if_pos h2, Int.add_zero]
    · rw [if_neg h2, if_neg h2]
      by_cases h3 : ru = 3
      · rw [if_pos h3, if_pos h3, if_neg (by omega), if_pos (by omega)]
        rw [show p + 0 / 2 = p by omega, show (0 : Int) / 2 + 1 = 1 by omega]
      · rw [if_neg h3, if_neg h3, Int.add_zero]
theorem rem_end {n ru re p i : Int} (hr : 0 ≤ ru ∧ ru ≤ 3) (hb : 0 ≤ re ∧ re ≤ 8 ∧ 1 ≤ n ∧ n ≤ 8 ∧ 0 ≤ p ∧ p < n ∧ 0 ≤ i ∧ i ≤ 18) (h : plZ n ru re p i < -90) : remZ n ru re p i = [] := by
  unfold plZ at h
  unfold remZ
  have hc : ru = 0 ∨ ru = 1 ∨ ru = 2 ∨ ru = 3 := by omega
  rcases hc with rfl | rfl | rfl | rfl
  · rw [if_pos rfl] at h
    rw [if_neg (by omega), if_neg (by omega), if_neg (by omega)]
    exact upL_nil (by split at h <;> omega)
  · rw [if_neg (by omega), if_pos rfl] at h
    rw [if_pos rfl]
    by_cases q : i ≤ re
    · rw [if_pos q] at h
      omega
    · rw [if_neg q] at h
      rw [if_neg q]
      exact upL_nil (by split at h <;> omega)
  · rw [if_neg (by omega), if_neg (by omega), if_pos rfl] at h
    rw [if_neg (by omega), if_pos rfl]
    exact upL_nil (by split at h <;> omega)
  · rw [if_neg (by omega), if_neg (by omega), if_neg (by omega)] at h
    rw [if_neg (by omega), if_neg (by omega), if_pos rfl]
    have q : 2 * re < i := by
      by_cases q : 2 * re < i
      · exact q
      · rw [if_neg q] at h
        split at h <;> omega
    by_cases q2 : i % 2 = 1
    · rw [if_pos q2]
      exact arL_nil (by omega)
    · rw [if_neg q2, if_neg (by omega)]
theorem rmq0 (n re p i : Int) : remZ n 0 re p i = upL (p + i) (n - 1) := by
  unfold remZ
  rw [if_neg (by omega), if_neg (by omega), if_neg (by omega)]
theorem rmq1 (n re p i : Int) : remZ n 1 re p i = if i ≤ re then dnL (p - i) (p - re) ++ upL (p + 1) (n - 1) else upL (p + i - re) (n - 1) := if_pos rfl
theorem rmq2 (n re p i : Int) : remZ n 2 re p i = upL (p + i) (p + re) := by
  unfold remZ
  rw [if_neg (by omega), if_pos rfl]
theorem rmq3 (n re p i : Int) : remZ n 3 re p i = if i % 2 = 1 then arL p ((i + 1) / 2) re else if i ≤ 2 * re then (p + i / 2) :: arL p (i / 2 + 1) re else [] := by
  unfold remZ
  rw [if_neg (by omega), if_neg (by omega), if_pos rfl]
theorem plq0 (n re p i : Int) : plZ n 0 re p i = if p + i < n then p + i else -99 := if_pos rfl
theorem plq1 (n re p i : Int) : plZ n 1 re p i = if i ≤ re then p - i else if p + i - re < n then p + i - re else -99 := by
  unfold plZ
  rw [if_neg (by omega), if_pos rfl]
theorem plq2 (n re p i : Int) : plZ n 2 re p i = if i ≤ re then p + i else -99 := by
  unfold plZ
  rw [if_neg (by omega), if_neg (by omega), if_pos rfl]
theorem plq3 (n re p i : Int) : plZ n 3 re p i = if 2 * re < i then -99 else if i % 2 = 1 then p - (i + 1) / 2 else p + i / 2 := by
  unfold plZ
  rw [if_neg (by omega), if_neg (by omega), if_neg (by omega)]
theorem rem_step {n ru re p i : Int} (hr : 0 ≤ ru ∧ ru ≤ 3) (hb : 0 ≤ re ∧ re ≤ 8 ∧ 1 ≤ n ∧ n ≤ 8 ∧ 0 ≤ p ∧ p < n ∧ 0 ≤ i ∧ i ≤ 18) (h : -90 ≤ plZ n ru re p i) : i ≤ 17 ∧ plZ n ru re p i ≤ 30 ∧ remZ n ru re p i = plZ n ru re p i :: remZ n ru re p (i + 1) := by
  have hc : ru = 0 ∨ ru = 1 ∨ ru = 2 ∨ ru = 3 := by omega
  rcases hc with rfl | rfl | rfl | rfl
  · rw [plq0] at h ⊢
    rw [rmq0, rmq0]
    by_cases q : p + i < n
    · rw [if_pos q]
      refine ⟨by omega, by omega, ?_⟩
      rw [upL_cons (by omega), Int.add_assoc]
    · rw [if_neg q] at h
      omega
  · rw [plq1] at h ⊢
    rw [rmq1, rmq1]
    by_cases q : i ≤ re
    · rw [if_pos q, if_pos q]
      refine ⟨by omega, by omega, ?_⟩
      rw [dnL_cons (by omega), List.cons_append]
      by_cases q2 : i + 1 ≤ re
      · rw [if_pos q2, show p - i - 1 = p - (i + 1) by omega]
      · rw [if_neg q2, dnL_nil (by omega), List.nil_append, show p + (i + 1) - re = p + 1 by omega]
    · rw [if_neg q] at h ⊢
      rw [if_neg q, if_neg (show ¬ i + 1 ≤ re by omega)]
      by_cases q2 : p + i - re < n
      · rw [if_pos q2]
        refine ⟨by omega, by omega, ?_⟩
        rw [upL_cons (by omega), show p + i - re + 1 = p + (i + 1) - re by omega]
      · rw [if_neg q2] at h
        omega
  · rw [plq2] at h ⊢
    rw [rmq2, rmq2]
    by_cases q : i ≤ re
    · rw [if_pos q]
      refine ⟨by omega, by omega, ?_⟩
      rw [upL_cons (by omega), Int.add_assoc]
    · rw [if_neg q] at h
      omega
  · rw [plq3] at h ⊢
    rw [rmq3, rmq3]
    by_cases q : 2 * re < i
    · rw [if_pos q] at h
      omega
    · rw [if_neg q]
      by_cases q2 : i % 2 = 1
      · rw [if_pos q2, if_pos q2, if_neg (show ¬ (i + 1) % 2 = 1 by omega), if_pos (show i + 1 ≤ 2 * re by omega)]
        refine ⟨by omega, by omega, ?_⟩
        rw [arL_cons (by omega)]
      · rw [if_neg q2, if_neg q2, if_pos (show (i + 1) % 2 = 1 by omega), if_pos (show i ≤ 2 * re by omega)]
        refine ⟨by omega, by omega, ?_⟩
        rw [show (i + 1 + 1) / 2 = i / 2 + 1 by omega]

set_option maxHeartbeats 4000000 in
set_option maxRecDepth 100000 in
theorem c_X7_placeOf (l : Launch) (dd : va_G) (cI cJ cC cS : ClassId) (y0 v0 a0 r0 f0 g0 d0 t9 : Nat) (n sts ty th : Int) (mv : Int → Int) (p9 i : Int) (sz : Nat) (hn : 1 ≤ n ∧ n ≤ 8) (hc1 : 0 ≤ mv 1 ∧ mv 1 ≤ 3) (hc2 : 0 ≤ mv 2 ∧ mv 2 ≤ 8) (hp9 : 0 ≤ p9 ∧ p9 ≤ 8) (hi : 0 ≤ i ∧ i ≤ 100) : gMi l yX7_placeOf wsX7_placeOf 1 0 0 dd cI cJ cC cS [.ref y0, vI p9, vI i] [kO y0 7 [vI n, .ref v0, .ref a0, vI sts, .ref r0, .ref f0, .ref g0, .ref d0, .ref t9, vI ty, vI th], kI cI v0 21 mv] sz (fun (z : Int) (_ : Unit) => z = plZ n (mv 1) (mv 2) p9 i) (fun (_ : Unit) => [kO y0 7 [vI n, .ref v0, .ref a0, vI sts, .ref r0, .ref f0, .ref g0, .ref d0, .ref t9, vI ty, vI th], kI cI v0 21 mv]) := by
  refine gMi_of (cc := cX7_placeOf) (maxL := 4) (ret := (some .int)) (by decide) rfl (Nat.le_of_ble_eq_true rfl) ?_
  intro p e s m args below meth c A Q hQ hx hb hr hts hown hlocks hnm hml H locs hP hK hD hA hS ls hl
  have hi7 : ∀ w ∈ wsX70, w ∈ wsX7_placeOf := fun _ h => (List.mem_cons_of_mem _ (List.mem_append_right _ h))
  have hl : lv_has ls 4 [(0, .ref y0), (1, vI p9), (2, vI i)] := hl
  refine lv_aload_n hx hb dX7_placeOf_0 rfl (lv_at hl 0 rfl) ?_
  refine va_get (D := dd) (ci := 7) (v := .ref v0) (C := RX7) (T := TX7) (N := 11) hx hb hts hi7 hown hK hP 0 rfl rfl 1 (by decide) (hts _ (List.mem_cons_of_mem _ (List.mem_append_left _ (List.mem_of_getElem? (i := 0) rfl)))) (fun _ h9 => h9) rfl dX7_placeOf_1 ?_
  refine z_iconst hx hb dX7_placeOf_4 ?_
  refine z_iald hx hb hK hP 1 0 rfl rfl (i := 2) (by omega) (by decide) dX7_placeOf_5 ?_
  refine lv_istore_n (lv' := [(3, vI (mv 2)), (0, .ref y0), (1, vI p9), (2, vI i)]) hx hb dX7_placeOf_6 rfl hl (by decide) rfl (fun ls hl => ?_)
  refine lv_aload_n hx hb dX7_placeOf_7 rfl (lv_at hl 1 rfl) ?_
  refine va_get (D := dd) (ci := 7) (v := .ref v0) (C := RX7) (T := TX7) (N := 11) hx hb hts hi7 hown hK hP 0 rfl rfl 1 (by decide) (hts _ (List.mem_cons_of_mem _ (List.mem_append_left _ (List.mem_of_getElem? (i := 0) rfl)))) (fun _ h9 => h9) rfl dX7_placeOf_8 ?_
  refine z_iconst hx hb dX7_placeOf_11 ?_
  refine z_iald hx hb hK hP 1 0 rfl rfl (i := 1) (by omega) (by decide) dX7_placeOf_12 ?_
  have sw13 : (mv 1) = 0 ∨ (mv 1) = 1 ∨ (mv 1) = 2 ∨ ((mv 1) < 0 ∨ 2 < (mv 1)) := by omega
  rcases sw13 with sw13 | sw13 | sw13 | sw13
  · skip
    refine z_tabIn (k := 0) (tgt := 40) hx hb dX7_placeOf_13 (by omega) sw13 rfl (by decide) ?_
    refine lv_iload_n hx hb dX7_placeOf_40 rfl (lv_at hl 2 rfl) ?_
    refine lv_iload_n hx hb dX7_placeOf_41 rfl (lv_at hl 3 rfl) ?_
    refine z_iadd (z := (p9 + i)) hx hb rfl dX7_placeOf_42 ?_
    refine lv_aload_n hx hb dX7_placeOf_43 rfl (lv_at hl 1 rfl) ?_
    refine va_get (D := dd) (ci := 7) (v := vI n) (C := RX7) (T := TX7) (N := 11) hx hb hts hi7 hown hK hP 0 rfl rfl 0 (by decide) (hts _ (List.mem_cons_of_mem _ (List.mem_append_left _ (List.mem_of_getElem? (i := 1) rfl)))) (fun _ h9 => h9) rfl dX7_placeOf_44 ?_
    refine z_icmp_ge (tgt := 56) hx hb dX7_placeOf_47 (by decide) (by omega) (fun c47 => ?_) (fun c47 => ?_)
    · skip
      refine z_bipush hx hb dX7_placeOf_56 (by decide +kernel) ?_
      subst hQ
      refine z_iret (z := (-99)) hx hb hr hlocks dX7_placeOf_58 () hK hS ⟨by omega, by omega⟩ hP hD ?_
      unfold plZ
      repeat (first | rw [if_pos (by omega)] | rw [if_neg (by omega)])
    · skip
      refine lv_iload_n hx hb dX7_placeOf_50 rfl (lv_at hl 2 rfl) ?_
      refine lv_iload_n hx hb dX7_placeOf_51 rfl (lv_at hl 3 rfl) ?_
      refine z_iadd (z := (p9 + i)) hx hb rfl dX7_placeOf_52 ?_
      refine lv_goto (tgt := 58) hx hb dX7_placeOf_53 (by decide) ?_
      subst hQ
      refine z_iret (z := (p9 + i)) hx hb hr hlocks dX7_placeOf_58 () hK hS ⟨by omega, by omega⟩ hP hD ?_
      unfold plZ
      repeat (first | rw [if_pos (by omega)] | rw [if_neg (by omega)])
  · skip
    refine z_tabIn (k := 1) (tgt := 59) hx hb dX7_placeOf_13 (by omega) sw13 rfl (by decide) ?_
    refine lv_iload_n hx hb dX7_placeOf_59 rfl (lv_at hl 3 rfl) ?_
    refine lv_iload_n hx hb dX7_placeOf_60 rfl (lv_at hl 0 rfl) ?_
    refine z_icmp_gt (tgt := 70) hx hb dX7_placeOf_61 (by decide) (by omega) (fun c61 => ?_) (fun c61 => ?_)
    · skip
      refine lv_iload_n hx hb dX7_placeOf_70 rfl (lv_at hl 2 rfl) ?_
      refine lv_iload_n hx hb dX7_placeOf_71 rfl (lv_at hl 3 rfl) ?_
      refine z_iadd (z := (p9 + i)) hx hb rfl dX7_placeOf_72 ?_
      refine lv_iload_n hx hb dX7_placeOf_73 rfl (lv_at hl 0 rfl) ?_
      refine z_isub (z := ((p9 + i) - (mv 2))) hx hb rfl dX7_placeOf_74 ?_
      refine lv_aload_n hx hb dX7_placeOf_75 rfl (lv_at hl 1 rfl) ?_
      refine va_get (D := dd) (ci := 7) (v := vI n) (C := RX7) (T := TX7) (N := 11) hx hb hts hi7 hown hK hP 0 rfl rfl 0 (by decide) (hts _ (List.mem_cons_of_mem _ (List.mem_append_left _ (List.mem_of_getElem? (i := 1) rfl)))) (fun _ h9 => h9) rfl dX7_placeOf_76 ?_
      refine z_icmp_ge (tgt := 90) hx hb dX7_placeOf_79 (by decide) (by omega) (fun c79 => ?_) (fun c79 => ?_)
      · skip
        refine z_bipush hx hb dX7_placeOf_90 (by decide +kernel) ?_
        subst hQ
        refine z_iret (z := (-99)) hx hb hr hlocks dX7_placeOf_92 () hK hS ⟨by omega, by omega⟩ hP hD ?_
        unfold plZ
        repeat (first | rw [if_pos (by omega)] | rw [if_neg (by omega)])
      · skip
        refine lv_iload_n hx hb dX7_placeOf_82 rfl (lv_at hl 2 rfl) ?_
        refine lv_iload_n hx hb dX7_placeOf_83 rfl (lv_at hl 3 rfl) ?_
        refine z_iadd (z := (p9 + i)) hx hb rfl dX7_placeOf_84 ?_
        refine lv_iload_n hx hb dX7_placeOf_85 rfl (lv_at hl 0 rfl) ?_
        refine z_isub (z := ((p9 + i) - (mv 2))) hx hb rfl dX7_placeOf_86 ?_
        refine lv_goto (tgt := 92) hx hb dX7_placeOf_87 (by decide) ?_
        subst hQ
        refine z_iret (z := ((p9 + i) - (mv 2))) hx hb hr hlocks dX7_placeOf_92 () hK hS ⟨by omega, by omega⟩ hP hD ?_
        unfold plZ
        repeat (first | rw [if_pos (by omega)] | rw [if_neg (by omega)])
    · skip
      refine lv_iload_n hx hb dX7_placeOf_64 rfl (lv_at hl 2 rfl) ?_
      refine lv_iload_n hx hb dX7_placeOf_65 rfl (lv_at hl 3 rfl) ?_
      refine z_isub (z := (p9 - i)) hx hb rfl dX7_placeOf_66 ?_
      refine lv_goto (tgt := 92) hx hb dX7_placeOf_67 (by decide) ?_
      subst hQ
      refine z_iret (z := (p9 - i)) hx hb hr hlocks dX7_placeOf_92 () hK hS ⟨by omega, by omega⟩ hP hD ?_
      unfold plZ
      repeat (first | rw [if_pos (by omega)] | rw [if_neg (by omega)])
  · skip
    refine z_tabIn (k := 2) (tgt := 93) hx hb dX7_placeOf_13 (by omega) sw13 rfl (by decide) ?_
    refine lv_iload_n hx hb dX7_placeOf_93 rfl (lv_at hl 3 rfl) ?_
    refine lv_iload_n hx hb dX7_placeOf_94 rfl (lv_at hl 0 rfl) ?_
    refine z_icmp_gt (tgt := 104) hx hb dX7_placeOf_95 (by decide) (by omega) (fun c95 => ?_) (fun c95 => ?_)
    · skip
      refine z_bipush hx hb dX7_placeOf_104 (by decide +kernel) ?_
      subst hQ
      refine z_iret (z := (-99)) hx hb hr hlocks dX7_placeOf_106 () hK hS ⟨by omega, by omega⟩ hP hD ?_
      unfold plZ
      repeat (first | rw [if_pos (by omega)] | rw [if_neg (by omega)])
    · skip
      refine lv_iload_n hx hb dX7_placeOf_98 rfl (lv_at hl 2 rfl) ?_
      refine lv_iload_n hx hb dX7_placeOf_99 rfl (lv_at hl 3 rfl) ?_
      refine z_iadd (z := (p9 + i)) hx hb rfl dX7_placeOf_100 ?_
      refine lv_goto (tgt := 106) hx hb dX7_placeOf_101 (by decide) ?_
      subst hQ
      refine z_iret (z := (p9 + i)) hx hb hr hlocks dX7_placeOf_106 () hK hS ⟨by omega, by omega⟩ hP hD ?_
      unfold plZ
      repeat (first | rw [if_pos (by omega)] | rw [if_neg (by omega)])
  · skip
    refine z_tabOut (tgt := 107) hx hb dX7_placeOf_13 (by omega) sw13 (by decide) ?_
    refine lv_iload_n hx hb dX7_placeOf_107 rfl (lv_at hl 3 rfl) ?_
    refine z_iconst hx hb dX7_placeOf_108 ?_
    refine lv_iload_n hx hb dX7_placeOf_109 rfl (lv_at hl 0 rfl) ?_
    refine z_imul (z := (2 * (mv 2))) hx hb rfl dX7_placeOf_110 ?_
    refine z_icmp_le (tgt := 119) hx hb dX7_placeOf_111 (by decide) (by omega) (fun c111 => ?_) (fun c111 => ?_)
    · skip
      refine lv_iload_n hx hb dX7_placeOf_119 rfl (lv_at hl 3 rfl) ?_
      refine z_iconst hx hb dX7_placeOf_120 ?_
      refine z_irem (z := (i % 2)) hx hb (by omega) (Int.tmod_eq_emod_of_nonneg (by omega)) dX7_placeOf_121 ?_
      refine z_iconst hx hb dX7_placeOf_122 ?_
      refine z_icmp_ne (tgt := 136) hx hb dX7_placeOf_123 (by decide) (by omega) (fun c123 => ?_) (fun c123 => ?_)
      · skip
        refine lv_iload_n hx hb dX7_placeOf_136 rfl (lv_at hl 2 rfl) ?_
        refine lv_iload_n hx hb dX7_placeOf_137 rfl (lv_at hl 3 rfl) ?_
        refine z_iconst hx hb dX7_placeOf_138 ?_
        refine z_idiv (z := (i / 2)) hx hb (by omega) (Int.tdiv_eq_ediv_of_nonneg (by omega)) dX7_placeOf_139 ?_
        refine z_iadd (z := (p9 + (i / 2))) hx hb rfl dX7_placeOf_140 ?_
        subst hQ
        refine z_iret (z := (p9 + (i / 2))) hx hb hr hlocks dX7_placeOf_141 () hK hS ⟨by omega, by omega⟩ hP hD ?_
        unfold plZ
        repeat (first | rw [if_pos (by omega)] | rw [if_neg (by omega)])
      · skip
        refine lv_iload_n hx hb dX7_placeOf_126 rfl (lv_at hl 2 rfl) ?_
        refine lv_iload_n hx hb dX7_placeOf_127 rfl (lv_at hl 3 rfl) ?_
        refine z_iconst hx hb dX7_placeOf_128 ?_
        refine z_iadd (z := (i + 1)) hx hb rfl dX7_placeOf_129 ?_
        refine z_iconst hx hb dX7_placeOf_130 ?_
        refine z_idiv (z := ((i + 1) / 2)) hx hb (by omega) (Int.tdiv_eq_ediv_of_nonneg (by omega)) dX7_placeOf_131 ?_
        refine z_isub (z := (p9 - ((i + 1) / 2))) hx hb rfl dX7_placeOf_132 ?_
        refine lv_goto (tgt := 141) hx hb dX7_placeOf_133 (by decide) ?_
        subst hQ
        refine z_iret (z := (p9 - ((i + 1) / 2))) hx hb hr hlocks dX7_placeOf_141 () hK hS ⟨by omega, by omega⟩ hP hD ?_
        unfold plZ
        repeat (first | rw [if_pos (by omega)] | rw [if_neg (by omega)])
    · skip
      refine z_bipush hx hb dX7_placeOf_114 (by decide +kernel) ?_
      refine lv_goto (tgt := 141) hx hb dX7_placeOf_116 (by decide) ?_
      subst hQ
      refine z_iret (z := (-99)) hx hb hr hlocks dX7_placeOf_141 () hK hS ⟨by omega, by omega⟩ hP hD ?_
      unfold plZ
      repeat (first | rw [if_pos (by omega)] | rw [if_neg (by omega)])

