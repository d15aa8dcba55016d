/-! the constructors: both objects made, cell by cell -/
def lkI : List (Nat × Nat × Int32) → Nat → Nat → Int32
  | [], _, _ => 0
  | q :: l, a, b => if a = q.1 ∧ b = q.2.1 then q.2.2 else lkI l a b
def lkR : List (Nat × Nat × Nat) → Nat → Nat → Option Nat
  | [], _, _ => none
  | q :: l, a, b => if a = q.1 ∧ b = q.2.1 then some q.2.2 else lkR l a b
def mkS (li : List (Nat × Nat × Int32)) (lr : List (Nat × Nat × Nat)) : Hp := (fun a b => lkI li a b, fun _ _ => 0, fun a b => lkR lr a b)
theorem mkS_i {li : List (Nat × Nat × Int32)} {lr : List (Nat × Nat × Nat)} {k j : Nat} {x : Int32} : si (mkS li lr) k j x = mkS ((k, j, x) :: li) lr := rfl
theorem mkS_r {li : List (Nat × Nat × Int32)} {lr : List (Nat × Nat × Nat)} {k j a : Nat} : sr (mkS li lr) k j (some a) = mkS li ((k, j, a) :: lr) := rfl
theorem mkS_m {li : List (Nat × Nat × Int32)} {lr : List (Nat × Nat × Nat)} {k : Nat} : srm (mkS li lr) k 6 = mkS li ((k, 0, k + 1) :: (k, 1, k + 2) :: (k, 2, k + 3) :: (k, 3, k + 4) :: (k, 4, k + 5) :: (k, 5, k + 6) :: lr) := by
  unfold srm mkS
  refine congrArg (Prod.mk _) (congrArg (Prod.mk _) ?_)
  funext a b
  by_cases ha : a = k
  · subst ha
    by_cases hb : b < 6
    · have h : b = 0 ∨ b = 1 ∨ b = 2 ∨ b = 3 ∨ b = 4 ∨ b = 5 := by omega
      rcases h with h | h | h | h | h | h <;> subst h <;> simp [lkR]
    · rw [if_neg (by omega)]
      simp only [lkR]
      repeat rw [if_neg (by omega)]
  · rw [if_neg (by omega)]
    simp only [lkR]
    repeat rw [if_neg (by omega)]
def zrB (li : List (Nat × Nat × Int32)) (lr : List (Nat × Nat × Nat)) (m : Nat) : Bool := li.all (fun q => decide (q.1 < m)) && lr.all (fun q => decide (q.1 < m))
theorem lkI_0 {k j m : Nat} : ∀ {li : List (Nat × Nat × Int32)}, li.all (fun q => decide (q.1 < m)) = true → m ≤ k → lkI li k j = 0
  | [], _, _ => rfl
  | q :: l, h, hk => by
    rw [List.all_cons, Bool.and_eq_true, decide_eq_true_eq] at h
    show (if k = q.1 ∧ j = q.2.1 then q.2.2 else lkI l k j) = 0
    rw [if_neg (by omega)]
    exact lkI_0 h.2 hk
theorem lkR_0 {k j m : Nat} : ∀ {lr : List (Nat × Nat × Nat)}, lr.all (fun q => decide (q.1 < m)) = true → m ≤ k → lkR lr k j = none
  | [], _, _ => rfl
  | q :: l, h, hk => by
    rw [List.all_cons, Bool.and_eq_true, decide_eq_true_eq] at h
    show (if k = q.1 ∧ j = q.2.1 then some q.2.2 else lkR l k j) = none
    rw [if_neg (by omega)]
    exact lkR_0 h.2 hk
theorem Zr_mk {li : List (Nat × Nat × Int32)} {lr : List (Nat × Nat × Nat)} {m : Nat} (h : zrB li lr m = true) : Zr (mkS li lr) m := fun k hk j => by
  unfold zrB at h
  rw [Bool.and_eq_true] at h
  exact ⟨lkI_0 h.1 hk, rfl, lkR_0 h.2 hk⟩
theorem inner_i (K : Nat) (c : ClassId) : Jvm.Free.Multi.innerC c K (defaultValue .int) = vp_cell c (K, .inl (fun _ => 0)) := by
  first
  | rfl
  | (unfold Jvm.Free.Multi.innerC; rw [arrV_new]; rfl)
theorem inner_l (K : Nat) (c : ClassId) : Jvm.Free.Multi.innerC c K (defaultValue .long) = vp_cell c (K, .inr (.inl (fun _ => 0))) := by
  first
  | rfl
  | (unfold Jvm.Free.Multi.innerC; rw [arrV_new]; rfl)
def KT (m : Nat) : List Kd := KA.take m
def LI0 : List (Nat × Nat × Int32) := []
def LR0 : List (Nat × Nat × Nat) := []
theorem kl0 : (KT 0).length = 0 := by decide +kernel
theorem kl1 : (KT 1).length = 1 := by decide +kernel
theorem kl2 : (KT 2).length = 2 := by decide +kernel
theorem kl3 : (KT 3).length = 3 := by decide +kernel
theorem kl4 : (KT 4).length = 4 := by decide +kernel
theorem kl5 : (KT 5).length = 5 := by decide +kernel
theorem kl6 : (KT 6).length = 6 := by decide +kernel
theorem kl7 : (KT 7).length = 7 := by decide +kernel
theorem kl8 : (KT 8).length = 8 := by decide +kernel
theorem kl9 : (KT 9).length = 9 := by decide +kernel
theorem kl10 : (KT 10).length = 10 := by decide +kernel
theorem kl11 : (KT 11).length = 11 := by decide +kernel
theorem kl12 : (KT 12).length = 12 := by decide +kernel
theorem kl13 : (KT 13).length = 13 := by decide +kernel
theorem kl14 : (KT 14).length = 14 := by decide +kernel
theorem kl15 : (KT 15).length = 15 := by decide +kernel
theorem kl16 : (KT 16).length = 16 := by decide +kernel
theorem kl17 : (KT 17).length = 17 := by decide +kernel
theorem kl18 : (KT 18).length = 18 := by decide +kernel
theorem kl19 : (KT 19).length = 19 := by decide +kernel
theorem kl20 : (KT 20).length = 20 := by decide +kernel
theorem kl21 : (KT 21).length = 21 := by decide +kernel
theorem kl22 : (KT 22).length = 22 := by decide +kernel
theorem kl23 : (KT 23).length = 23 := by decide +kernel
theorem kl24 : (KT 24).length = 24 := by decide +kernel
theorem kl25 : (KT 25).length = 25 := by decide +kernel
theorem kl26 : (KT 26).length = 26 := by decide +kernel
theorem kl27 : (KT 27).length = 27 := by decide +kernel
theorem kl28 : (KT 28).length = 28 := by decide +kernel
theorem kl29 : (KT 29).length = 29 := by decide +kernel
theorem kl30 : (KT 30).length = 30 := by decide +kernel
theorem kl31 : (KT 31).length = 31 := by decide +kernel
theorem kl32 : (KT 32).length = 32 := by decide +kernel
theorem kl33 : (KT 33).length = 33 := by decide +kernel
theorem kl34 : (KT 34).length = 34 := by decide +kernel
theorem kl35 : (KT 35).length = 35 := by decide +kernel
theorem kl36 : (KT 36).length = 36 := by decide +kernel
theorem kl37 : (KT 37).length = 37 := by decide +kernel
theorem kl38 : (KT 38).length = 38 := by decide +kernel
theorem kl39 : (KT 39).length = 39 := by decide +kernel
theorem kl40 : (KT 40).length = 40 := by decide +kernel
theorem kl41 : (KT 41).length = 41 := by decide +kernel
theorem kl42 : (KT 42).length = 42 := by decide +kernel
theorem kl43 : (KT 43).length = 43 := by decide +kernel
theorem kl44 : (KT 44).length = 44 := by decide +kernel
theorem kl45 : (KT 45).length = 45 := by decide +kernel
theorem kl46 : (KT 46).length = 46 := by decide +kernel
theorem kl47 : (KT 47).length = 47 := by decide +kernel
theorem kl48 : (KT 48).length = 48 := by decide +kernel
theorem kl49 : (KT 49).length = 49 := by decide +kernel
theorem kl50 : (KT 50).length = 50 := by decide +kernel
theorem kl51 : (KT 51).length = 51 := by decide +kernel
theorem kl52 : (KT 52).length = 52 := by decide +kernel
theorem kl53 : (KT 53).length = 53 := by decide +kernel
theorem kl54 : (KT 54).length = 54 := by decide +kernel
theorem kl55 : (KT 55).length = 55 := by decide +kernel
theorem kl56 : (KT 56).length = 56 := by decide +kernel
theorem kl57 : (KT 57).length = 57 := by decide +kernel
theorem kl58 : (KT 58).length = 58 := by decide +kernel
theorem kl59 : (KT 59).length = 59 := by decide +kernel
theorem kl60 : (KT 60).length = 60 := by decide +kernel
theorem kl61 : (KT 61).length = 61 := by decide +kernel
theorem kl62 : (KT 62).length = 62 := by decide +kernel
theorem kl63 : (KT 63).length = 63 := by decide +kernel
theorem kl64 : (KT 64).length = 64 := by decide +kernel
theorem kl65 : (KT 65).length = 65 := by decide +kernel
theorem kl66 : (KT 66).length = 66 := by decide +kernel
theorem kl67 : (KT 67).length = 67 := by decide +kernel
theorem kl68 : (KT 68).length = 68 := by decide +kernel
theorem kl69 : (KT 69).length = 69 := by decide +kernel
theorem kl70 : (KT 70).length = 70 := by decide +kernel
theorem kl71 : (KT 71).length = 71 := by decide +kernel
theorem kl72 : (KT 72).length = 72 := by decide +kernel
theorem kl73 : (KT 73).length = 73 := by decide +kernel
theorem kl74 : (KT 74).length = 74 := by decide +kernel
theorem kl75 : (KT 75).length = 75 := by decide +kernel
theorem kl76 : (KT 76).length = 76 := by decide +kernel
theorem kl77 : (KT 77).length = 77 := by decide +kernel
theorem kl78 : (KT 78).length = 78 := by decide +kernel
theorem kl79 : (KT 79).length = 79 := by decide +kernel
theorem kl80 : (KT 80).length = 80 := by decide +kernel
theorem kl81 : (KT 81).length = 81 := by decide +kernel
theorem kl82 : (KT 82).length = 82 := by decide +kernel
theorem kl83 : (KT 83).length = 83 := by decide +kernel
theorem kl84 : (KT 84).length = 84 := by decide +kernel
theorem kl85 : (KT 85).length = 85 := by decide +kernel
theorem kl86 : (KT 86).length = 86 := by decide +kernel
theorem kl87 : (KT 87).length = 87 := by decide +kernel
theorem kl88 : (KT 88).length = 88 := by decide +kernel
theorem kl89 : (KT 89).length = 89 := by decide +kernel
theorem kl90 : (KT 90).length = 90 := by decide +kernel
theorem kl91 : (KT 91).length = 91 := by decide +kernel
theorem kl92 : (KT 92).length = 92 := by decide +kernel
theorem kl93 : (KT 93).length = 93 := by decide +kernel
theorem kl94 : (KT 94).length = 94 := by decide +kernel
theorem kl95 : (KT 95).length = 95 := by decide +kernel
theorem kl96 : (KT 96).length = 96 := by decide +kernel
theorem kl97 : (KT 97).length = 97 := by decide +kernel
theorem kl98 : (KT 98).length = 98 := by decide +kernel
theorem kl99 : (KT 99).length = 99 := by decide +kernel
theorem kl100 : (KT 100).length = 100 := by decide +kernel
theorem kl101 : (KT 101).length = 101 := by decide +kernel
theorem kl102 : (KT 102).length = 102 := by decide +kernel
theorem kl103 : (KT 103).length = 103 := by decide +kernel
theorem kl104 : (KT 104).length = 104 := by decide +kernel
theorem kl105 : (KT 105).length = 105 := by decide +kernel
theorem kl106 : (KT 106).length = 106 := by decide +kernel
theorem kl107 : (KT 107).length = 107 := by decide +kernel
theorem kl108 : (KT 108).length = 108 := by decide +kernel
theorem kl109 : (KT 109).length = 109 := by decide +kernel
theorem kl110 : (KT 110).length = 110 := by decide +kernel
theorem kl111 : (KT 111).length = 111 := by decide +kernel
theorem kl112 : (KT 112).length = 112 := by decide +kernel
theorem kl113 : (KT 113).length = 113 := by decide +kernel
theorem kl114 : (KT 114).length = 114 := by decide +kernel
theorem kl115 : (KT 115).length = 115 := by decide +kernel
theorem kl116 : (KT 116).length = 116 := by decide +kernel
theorem kl117 : (KT 117).length = 117 := by decide +kernel
def LR1 : List (Nat × Nat × Nat) := (1, 1, 2) :: LR0
def LR2 : List (Nat × Nat × Nat) := (1, 3, 3) :: LR1
def LI1 : List (Nat × Nat × Int32) := (1, 6, (-1)) :: LI0
def LR3 : List (Nat × Nat × Nat) := (4, 1, 5) :: LR2
def LR4 : List (Nat × Nat × Nat) := (1, 7, 4) :: LR3
def LR5 : List (Nat × Nat × Nat) := (6, 1, 7) :: LR4
def LR6 : List (Nat × Nat × Nat) := (1, 8, 6) :: LR5
def LR7 : List (Nat × Nat × Nat) := (8, 6, 9) :: LR6
def LI2 : List (Nat × Nat × Int32) := (8, 0, 0) :: LI1
def LR8 : List (Nat × Nat × Nat) := (3, 0, 8) :: LR7
def LR9 : List (Nat × Nat × Nat) := (10, 6, 11) :: LR8
def LI3 : List (Nat × Nat × Int32) := (10, 0, 1) :: LI2
def LR10 : List (Nat × Nat × Nat) := (3, 1, 10) :: LR9
def LR11 : List (Nat × Nat × Nat) := (12, 6, 13) :: LR10
def LI4 : List (Nat × Nat × Int32) := (12, 0, 2) :: LI3
def LR12 : List (Nat × Nat × Nat) := (3, 2, 12) :: LR11
def LR13 : List (Nat × Nat × Nat) := (14, 6, 15) :: LR12
def LI5 : List (Nat × Nat × Int32) := (14, 0, 3) :: LI4
def LR14 : List (Nat × Nat × Nat) := (3, 3, 14) :: LR13
def LR15 : List (Nat × Nat × Nat) := (16, 6, 17) :: LR14
def LI6 : List (Nat × Nat × Int32) := (16, 0, 4) :: LI5
def LR16 : List (Nat × Nat × Nat) := (3, 4, 16) :: LR15
def LR17 : List (Nat × Nat × Nat) := (18, 6, 19) :: LR16
def LI7 : List (Nat × Nat × Int32) := (18, 0, 5) :: LI6
def LR18 : List (Nat × Nat × Nat) := (3, 5, 18) :: LR17
def LR19 : List (Nat × Nat × Nat) := (20, 6, 21) :: LR18
def LI8 : List (Nat × Nat × Int32) := (20, 0, 6) :: LI7
def LR20 : List (Nat × Nat × Nat) := (3, 6, 20) :: LR19
def LR21 : List (Nat × Nat × Nat) := (22, 6, 23) :: LR20
def LI9 : List (Nat × Nat × Int32) := (22, 0, 7) :: LI8
def LR22 : List (Nat × Nat × Nat) := (3, 7, 22) :: LR21
def LR23 : List (Nat × Nat × Nat) := (0, 0, 1) :: LR22
def LR24 : List (Nat × Nat × Nat) := (24, 1, 25) :: LR23
def LR25 : List (Nat × Nat × Nat) := (24, 3, 26) :: LR24
def LI10 : List (Nat × Nat × Int32) := (24, 6, (-1)) :: LI9
def LR26 : List (Nat × Nat × Nat) := (27, 1, 28) :: LR25
def LR27 : List (Nat × Nat × Nat) := (24, 7, 27) :: LR26
def LR28 : List (Nat × Nat × Nat) := (29, 1, 30) :: LR27
def LR29 : List (Nat × Nat × Nat) := (24, 8, 29) :: LR28
def LR30 : List (Nat × Nat × Nat) := (31, 6, 32) :: LR29
def LI11 : List (Nat × Nat × Int32) := (31, 0, 0) :: LI10
def LR31 : List (Nat × Nat × Nat) := (26, 0, 31) :: LR30
def LR32 : List (Nat × Nat × Nat) := (33, 6, 34) :: LR31
def LI12 : List (Nat × Nat × Int32) := (33, 0, 1) :: LI11
def LR33 : List (Nat × Nat × Nat) := (26, 1, 33) :: LR32
def LR34 : List (Nat × Nat × Nat) := (35, 6, 36) :: LR33
def LI13 : List (Nat × Nat × Int32) := (35, 0, 2) :: LI12
def LR35 : List (Nat × Nat × Nat) := (26, 2, 35) :: LR34
def LR36 : List (Nat × Nat × Nat) := (37, 6, 38) :: LR35
def LI14 : List (Nat × Nat × Int32) := (37, 0, 3) :: LI13
def LR37 : List (Nat × Nat × Nat) := (26, 3, 37) :: LR36
def LR38 : List (Nat × Nat × Nat) := (39, 6, 40) :: LR37
def LI15 : List (Nat × Nat × Int32) := (39, 0, 4) :: LI14
def LR39 : List (Nat × Nat × Nat) := (26, 4, 39) :: LR38
def LR40 : List (Nat × Nat × Nat) := (41, 6, 42) :: LR39
def LI16 : List (Nat × Nat × Int32) := (41, 0, 5) :: LI15
def LR41 : List (Nat × Nat × Nat) := (26, 5, 41) :: LR40
def LR42 : List (Nat × Nat × Nat) := (43, 6, 44) :: LR41
def LI17 : List (Nat × Nat × Int32) := (43, 0, 6) :: LI16
def LR43 : List (Nat × Nat × Nat) := (26, 6, 43) :: LR42
def LR44 : List (Nat × Nat × Nat) := (45, 6, 46) :: LR43
def LI18 : List (Nat × Nat × Int32) := (45, 0, 7) :: LI17
def LR45 : List (Nat × Nat × Nat) := (26, 7, 45) :: LR44
def LR46 : List (Nat × Nat × Nat) := (0, 1, 24) :: LR45
def LR47 : List (Nat × Nat × Nat) := (47, 0, 48) :: LR46
def LR48 : List (Nat × Nat × Nat) := (49, 5, 55) :: LR47
def LR49 : List (Nat × Nat × Nat) := (49, 4, 54) :: LR48
def LR50 : List (Nat × Nat × Nat) := (49, 3, 53) :: LR49
def LR51 : List (Nat × Nat × Nat) := (49, 2, 52) :: LR50
def LR52 : List (Nat × Nat × Nat) := (49, 1, 51) :: LR51
def LR53 : List (Nat × Nat × Nat) := (49, 0, 50) :: LR52
def LR54 : List (Nat × Nat × Nat) := (47, 3, 49) :: LR53
def LR55 : List (Nat × Nat × Nat) := (47, 4, 56) :: LR54
def LR56 : List (Nat × Nat × Nat) := (47, 5, 57) :: LR55
def LR57 : List (Nat × Nat × Nat) := (58, 2, 59) :: LR56
def LR58 : List (Nat × Nat × Nat) := (58, 0, 48) :: LR57
def LR59 : List (Nat × Nat × Nat) := (47, 6, 58) :: LR58
def LR60 : List (Nat × Nat × Nat) := (0, 3, 47) :: LR59
def LR61 : List (Nat × Nat × Nat) := (60, 2, 61) :: LR60
def LR62 : List (Nat × Nat × Nat) := (60, 0, 1) :: LR61
def LR63 : List (Nat × Nat × Nat) := (60, 1, 47) :: LR62
def LR64 : List (Nat × Nat × Nat) := (0, 4, 60) :: LR63
def LR65 : List (Nat × Nat × Nat) := (62, 2, 63) :: LR64
def LR66 : List (Nat × Nat × Nat) := (62, 0, 1) :: LR65
def LR67 : List (Nat × Nat × Nat) := (62, 1, 60) :: LR66
def LR68 : List (Nat × Nat × Nat) := (0, 5, 62) :: LR67
def LR69 : List (Nat × Nat × Nat) := (64, 1, 65) :: LR68
def LR70 : List (Nat × Nat × Nat) := (0, 6, 64) :: LR69
def LR71 : List (Nat × Nat × Nat) := (66, 0, 67) :: LR70
def LR72 : List (Nat × Nat × Nat) := (66, 1, 68) :: LR71
def LR73 : List (Nat × Nat × Nat) := (69, 5, 75) :: LR72
def LR74 : List (Nat × Nat × Nat) := (69, 4, 74) :: LR73
def LR75 : List (Nat × Nat × Nat) := (69, 3, 73) :: LR74
def LR76 : List (Nat × Nat × Nat) := (69, 2, 72) :: LR75
def LR77 : List (Nat × Nat × Nat) := (69, 1, 71) :: LR76
def LR78 : List (Nat × Nat × Nat) := (69, 0, 70) :: LR77
def LR79 : List (Nat × Nat × Nat) := (66, 2, 69) :: LR78
def LI19 : List (Nat × Nat × Int32) := (67, 0, (-1)) :: LI18
def LI20 : List (Nat × Nat × Int32) := (67, 1, (-1)) :: LI19
def LI21 : List (Nat × Nat × Int32) := (67, 2, (-1)) :: LI20
def LI22 : List (Nat × Nat × Int32) := (67, 3, (-1)) :: LI21
def LI23 : List (Nat × Nat × Int32) := (67, 4, (-1)) :: LI22
def LI24 : List (Nat × Nat × Int32) := (67, 5, (-1)) :: LI23
def LR80 : List (Nat × Nat × Nat) := (0, 7, 66) :: LR79
def LI25 : List (Nat × Nat × Int32) := (76, 0, 0) :: LI24
def LI26 : List (Nat × Nat × Int32) := (76, 1, 0) :: LI25
def LI27 : List (Nat × Nat × Int32) := (76, 2, 0) :: LI26
def LI28 : List (Nat × Nat × Int32) := (76, 3, 0) :: LI27
def LR81 : List (Nat × Nat × Nat) := (76, 4, 77) :: LR80
def LR82 : List (Nat × Nat × Nat) := (76, 5, 78) :: LR81
def LR83 : List (Nat × Nat × Nat) := (76, 6, 79) :: LR82
def LR84 : List (Nat × Nat × Nat) := (76, 7, 80) :: LR83
def LR85 : List (Nat × Nat × Nat) := (76, 8, 81) :: LR84
def LR86 : List (Nat × Nat × Nat) := (76, 9, 82) :: LR85
def LR87 : List (Nat × Nat × Nat) := (76, 10, 83) :: LR86
def LI29 : List (Nat × Nat × Int32) := (76, 11, 0) :: LI28
def LI30 : List (Nat × Nat × Int32) := (76, 12, (-1)) :: LI29
def LI31 : List (Nat × Nat × Int32) := (76, 13, 0) :: LI30
def LI32 : List (Nat × Nat × Int32) := (76, 14, 0) :: LI31
def LI33 : List (Nat × Nat × Int32) := (76, 15, 0) :: LI32
def LR88 : List (Nat × Nat × Nat) := (76, 16, 84) :: LR87
def LR89 : List (Nat × Nat × Nat) := (76, 17, 85) :: LR88
def LR90 : List (Nat × Nat × Nat) := (76, 18, 86) :: LR89
def LR91 : List (Nat × Nat × Nat) := (76, 19, 87) :: LR90
def LR92 : List (Nat × Nat × Nat) := (76, 20, 88) :: LR91
def LR93 : List (Nat × Nat × Nat) := (76, 21, 89) :: LR92
def LR94 : List (Nat × Nat × Nat) := (76, 22, 90) :: LR93
def LR95 : List (Nat × Nat × Nat) := (76, 23, 91) :: LR94
def LI34 : List (Nat × Nat × Int32) := (76, 24, 0) :: LI33
def LI35 : List (Nat × Nat × Int32) := (76, 25, 0) :: LI34
def LI36 : List (Nat × Nat × Int32) := (76, 26, 0) :: LI35
def LI37 : List (Nat × Nat × Int32) := (92, 0, 109) :: LI36
def LI38 : List (Nat × Nat × Int32) := (92, 1, 111) :: LI37
def LI39 : List (Nat × Nat × Int32) := (92, 2, 114) :: LI38
def LI40 : List (Nat × Nat × Int32) := (92, 3, 101) :: LI39
def LI41 : List (Nat × Nat × Int32) := (92, 4, 116) :: LI40
def LI42 : List (Nat × Nat × Int32) := (92, 5, 97) :: LI41
def LI43 : List (Nat × Nat × Int32) := (92, 6, 120) :: LI42
def LI44 : List (Nat × Nat × Int32) := (92, 7, 98) :: LI43
def LI45 : List (Nat × Nat × Int32) := (92, 8, 97) :: LI44
def LI46 : List (Nat × Nat × Int32) := (92, 9, 115) :: LI45
def LI47 : List (Nat × Nat × Int32) := (92, 10, 101) :: LI46
def LR96 : List (Nat × Nat × Nat) := (76, 27, 92) :: LR95
def LR97 : List (Nat × Nat × Nat) := (76, 28, 93) :: LR96
def LR98 : List (Nat × Nat × Nat) := (76, 29, 94) :: LR97
def LI48 : List (Nat × Nat × Int32) := (76, 30, 0) :: LI47
def LR99 : List (Nat × Nat × Nat) := (76, 31, 95) :: LR98
def LR100 : List (Nat × Nat × Nat) := (76, 32, 96) :: LR99
def LI49 : List (Nat × Nat × Int32) := (76, 33, 0) :: LI48
def LR101 : List (Nat × Nat × Nat) := (76, 34, 97) :: LR100
def LR102 : List (Nat × Nat × Nat) := (76, 35, 98) :: LR101
def LR103 : List (Nat × Nat × Nat) := (76, 36, 99) :: LR102
def LI50 : List (Nat × Nat × Int32) := (76, 37, 0) :: LI49
def LI51 : List (Nat × Nat × Int32) := (76, 38, (-1)) :: LI50
def LI52 : List (Nat × Nat × Int32) := (76, 39, 0) :: LI51
def LI53 : List (Nat × Nat × Int32) := (76, 40, 0) :: LI52
def LI54 : List (Nat × Nat × Int32) := (76, 41, 0) :: LI53
def LI55 : List (Nat × Nat × Int32) := (76, 42, 0) :: LI54
def LI56 : List (Nat × Nat × Int32) := (76, 43, 0) :: LI55
def LI57 : List (Nat × Nat × Int32) := (76, 44, 0) :: LI56
def LR104 : List (Nat × Nat × Nat) := (76, 45, 100) :: LR103
def LR105 : List (Nat × Nat × Nat) := (76, 46, 101) :: LR104
def LR106 : List (Nat × Nat × Nat) := (76, 47, 102) :: LR105
def LR107 : List (Nat × Nat × Nat) := (76, 48, 103) :: LR106
def LR108 : List (Nat × Nat × Nat) := (76, 49, 104) :: LR107
def LR109 : List (Nat × Nat × Nat) := (76, 50, 105) :: LR108
def LR110 : List (Nat × Nat × Nat) := (76, 51, 106) :: LR109
def LR111 : List (Nat × Nat × Nat) := (76, 52, 107) :: LR110
def LR112 : List (Nat × Nat × Nat) := (76, 53, 108) :: LR111
def LR113 : List (Nat × Nat × Nat) := (76, 54, 109) :: LR112
def LR114 : List (Nat × Nat × Nat) := (76, 55, 110) :: LR113
def LR115 : List (Nat × Nat × Nat) := (76, 56, 111) :: LR114
def LI58 : List (Nat × Nat × Int32) := (76, 57, 0) :: LI57
def LR116 : List (Nat × Nat × Nat) := (76, 58, 112) :: LR115
def LI59 : List (Nat × Nat × Int32) := (113, 0, (-1)) :: LI58
def LI60 : List (Nat × Nat × Int32) := (113, 1, (-1)) :: LI59
def LI61 : List (Nat × Nat × Int32) := (113, 2, (-1)) :: LI60
def LI62 : List (Nat × Nat × Int32) := (113, 3, (-1)) :: LI61
def LI63 : List (Nat × Nat × Int32) := (113, 4, (-1)) :: LI62
def LI64 : List (Nat × Nat × Int32) := (113, 5, (-1)) :: LI63
def LR117 : List (Nat × Nat × Nat) := (76, 59, 113) :: LR116
def LR118 : List (Nat × Nat × Nat) := (76, 60, 114) :: LR117
def LR119 : List (Nat × Nat × Nat) := (76, 61, 115) :: LR118
def LR120 : List (Nat × Nat × Nat) := (76, 62, 116) :: LR119
theorem nW_4 {l : Launch} {G : GT} : MM l G mW_init 1 1 24 [.ref 4] (KT 5) (mkS LI1 LR2) (PE none (KT 6) (mkS LI1 LR3)) := by
  refine MM.of (loc := [(0, .ref 4)]) (by decide +kernel) rfl (Nat.le_of_ble_eq_true rfl) ?_
  refine V_aload_n dW_init_0 rfl ?_
  refine V_obj rfl dW_init_1 mlW_3 oi oc (by decide) (Nat.le_of_ble_eq_true rfl) ?_
  refine V_aload_n dW_init_4 rfl ?_
  refine V_bipush (v := 24) dW_init_5 (by decide) ?_
  refine V_newI (N := 24) (bs' := 0) dW_init_7 ac_int (Zr_mk (by rw [kl5]; decide +kernel)) (by decide) (by decide) (by decide) (by decide +kernel) (by decide) ?_
  rw [kl5, show KT 5 ++ [(20, 24)] = KT 6 by decide +kernel]
  refine V_putR dW_init_9 flW_11 fpW_1 (by first | exact Or.inl ⟨_, rfl⟩ | exact Or.inr ⟨_, rfl⟩) (Or.inr rfl) (by decide +kernel) rfl ?_
  refine V_eqS (σ' := mkS LI1 LR3) rfl ?_
  exact V_ret dW_init_12 rfl (by decide +kernel) ⟨rfl, rfl, rfl⟩
theorem nW_6 {l : Launch} {G : GT} : MM l G mW_init 1 1 24 [.ref 6] (KT 7) (mkS LI1 LR4) (PE none (KT 8) (mkS LI1 LR5)) := by
  refine MM.of (loc := [(0, .ref 6)]) (by decide +kernel) rfl (Nat.le_of_ble_eq_true rfl) ?_
  refine V_aload_n dW_init_0 rfl ?_
  refine V_obj rfl dW_init_1 mlW_3 oi oc (by decide) (Nat.le_of_ble_eq_true rfl) ?_
  refine V_aload_n dW_init_4 rfl ?_
  refine V_bipush (v := 24) dW_init_5 (by decide) ?_
  refine V_newI (N := 24) (bs' := 0) dW_init_7 ac_int (Zr_mk (by rw [kl7]; decide +kernel)) (by decide) (by decide) (by decide) (by decide +kernel) (by decide) ?_
  rw [kl7, show KT 7 ++ [(20, 24)] = KT 8 by decide +kernel]
  refine V_putR dW_init_9 flW_11 fpW_1 (by first | exact Or.inl ⟨_, rfl⟩ | exact Or.inr ⟨_, rfl⟩) (Or.inr rfl) (by decide +kernel) rfl ?_
  refine V_eqS (σ' := mkS LI1 LR5) rfl ?_
  exact V_ret dW_init_12 rfl (by decide +kernel) ⟨rfl, rfl, rfl⟩
theorem nE_8 {l : Launch} {G : GT} : MM l G mE_init 1 1 4 [.ref 8, .int 0] (KT 9) (mkS LI1 LR6) (PE none (KT 10) (mkS LI2 LR7)) := by
  refine MM.of (loc := [(0, .ref 8), (1, .int 0)]) (by decide +kernel) rfl (Nat.le_of_ble_eq_true rfl) ?_
  refine V_aload_n dE_init_0 rfl ?_
  refine V_obj rfl dE_init_1 mlE_3 oi oc (by decide) (Nat.le_of_ble_eq_true rfl) ?_
  refine V_aload_n dE_init_4 rfl ?_
  refine V_iconst (v := 4) dE_init_5 (by decide) ?_
  refine V_newI (N := 4) (bs' := 0) dE_init_6 ac_int (Zr_mk (by rw [kl9]; decide +kernel)) (by decide) (by decide) (by decide) (by decide +kernel) (by decide) ?_
  rw [kl9, show KT 9 ++ [(20, 4)] = KT 10 by decide +kernel]
  refine V_putR dE_init_8 flE_9 fpE_6 (by first | exact Or.inl ⟨_, rfl⟩ | exact Or.inr ⟨_, rfl⟩) (Or.inr rfl) (by decide +kernel) rfl ?_
  refine V_eqS (σ' := mkS LI1 LR7) rfl ?_
  refine V_aload_n dE_init_11 rfl ?_
  refine V_iload_n dE_init_12 rfl ?_
  refine V_putI dE_init_13 flE_15 fpE_0 (Or.inr rfl) (by decide +kernel) rfl ?_
  refine V_eqS (σ' := mkS LI2 LR7) rfl ?_
  exact V_ret dE_init_16 rfl (by decide +kernel) ⟨rfl, rfl, rfl⟩
theorem nE_10 {l : Launch} {G : GT} : MM l G mE_init 1 1 4 [.ref 10, .int 1] (KT 11) (mkS LI2 LR8) (PE none (KT 12) (mkS LI3 LR9)) := by
  refine MM.of (loc := [(0, .ref 10), (1, .int 1)]) (by decide +kernel) rfl (Nat.le_of_ble_eq_true rfl) ?_
  refine V_aload_n dE_init_0 rfl ?_
  refine V_obj rfl dE_init_1 mlE_3 oi oc (by decide) (Nat.le_of_ble_eq_true rfl) ?_
  refine V_aload_n dE_init_4 rfl ?_
  refine V_iconst (v := 4) dE_init_5 (by decide) ?_
  refine V_newI (N := 4) (bs' := 0) dE_init_6 ac_int (Zr_mk (by rw [kl11]; decide +kernel)) (by decide) (by decide) (by decide) (by decide +kernel) (by decide) ?_
  rw [kl11, show KT 11 ++ [(20, 4)] = KT 12 by decide +kernel]
  refine V_putR dE_init_8 flE_9 fpE_6 (by first | exact Or.inl ⟨_, rfl⟩ | exact Or.inr ⟨_, rfl⟩) (Or.inr rfl) (by decide +kernel) rfl ?_
  refine V_eqS (σ' := mkS LI2 LR9) rfl ?_
  refine V_aload_n dE_init_11 rfl ?_
  refine V_iload_n dE_init_12 rfl ?_
  refine V_putI dE_init_13 flE_15 fpE_0 (Or.inr rfl) (by decide +kernel) rfl ?_
  refine V_eqS (σ' := mkS LI3 LR9) rfl ?_
  exact V_ret dE_init_16 rfl (by decide +kernel) ⟨rfl, rfl, rfl⟩
theorem nE_12 {l : Launch} {G : GT} : MM l G mE_init 1 1 4 [.ref 12, .int 2] (KT 13) (mkS LI3 LR10) (PE none (KT 14) (mkS LI4 LR11)) := by
  refine MM.of (loc := [(0, .ref 12), (1, .int 2)]) (by decide +kernel) rfl (Nat.le_of_ble_eq_true rfl) ?_
  refine V_aload_n dE_init_0 rfl ?_
  refine V_obj rfl dE_init_1 mlE_3 oi oc (by decide) (Nat.le_of_ble_eq_true rfl) ?_
  refine V_aload_n dE_init_4 rfl ?_
  refine V_iconst (v := 4) dE_init_5 (by decide) ?_
  refine V_newI (N := 4) (bs' := 0) dE_init_6 ac_int (Zr_mk (by rw [kl13]; decide +kernel)) (by decide) (by decide) (by decide) (by decide +kernel) (by decide) ?_
  rw [kl13, show KT 13 ++ [(20, 4)] = KT 14 by decide +kernel]
  refine V_putR dE_init_8 flE_9 fpE_6 (by first | exact Or.inl ⟨_, rfl⟩ | exact Or.inr ⟨_, rfl⟩) (Or.inr rfl) (by decide +kernel) rfl ?_
  refine V_eqS (σ' := mkS LI3 LR11) rfl ?_
  refine V_aload_n dE_init_11 rfl ?_
  refine V_iload_n dE_init_12 rfl ?_
  refine V_putI dE_init_13 flE_15 fpE_0 (Or.inr rfl) (by decide +kernel) rfl ?_
  refine V_eqS (σ' := mkS LI4 LR11) rfl ?_
  exact V_ret dE_init_16 rfl (by decide +kernel) ⟨rfl, rfl, rfl⟩
theorem nE_14 {l : Launch} {G : GT} : MM l G mE_init 1 1 4 [.ref 14, .int 3] (KT 15) (mkS LI4 LR12) (PE none (KT 16) (mkS LI5 LR13)) := by
  refine MM.of (loc := [(0, .ref 14), (1, .int 3)]) (by decide +kernel) rfl (Nat.le_of_ble_eq_true rfl) ?_
  refine V_aload_n dE_init_0 rfl ?_
  refine V_obj rfl dE_init_1 mlE_3 oi oc (by decide) (Nat.le_of_ble_eq_true rfl) ?_
  refine V_aload_n dE_init_4 rfl ?_
  refine V_iconst (v := 4) dE_init_5 (by decide) ?_
  refine V_newI (N := 4) (bs' := 0) dE_init_6 ac_int (Zr_mk (by rw [kl15]; decide +kernel)) (by decide) (by decide) (by decide) (by decide +kernel) (by decide) ?_
  rw [kl15, show KT 15 ++ [(20, 4)] = KT 16 by decide +kernel]
  refine V_putR dE_init_8 flE_9 fpE_6 (by first | exact Or.inl ⟨_, rfl⟩ | exact Or.inr ⟨_, rfl⟩) (Or.inr rfl) (by decide +kernel) rfl ?_
  refine V_eqS (σ' := mkS LI4 LR13) rfl ?_
  refine V_aload_n dE_init_11 rfl ?_
  refine V_iload_n dE_init_12 rfl ?_
  refine V_putI dE_init_13 flE_15 fpE_0 (Or.inr rfl) (by decide +kernel) rfl ?_
  refine V_eqS (σ' := mkS LI5 LR13) rfl ?_
  exact V_ret dE_init_16 rfl (by decide +kernel) ⟨rfl, rfl, rfl⟩
theorem nE_16 {l : Launch} {G : GT} : MM l G mE_init 1 1 4 [.ref 16, .int 4] (KT 17) (mkS LI5 LR14) (PE none (KT 18) (mkS LI6 LR15)) := by
  refine MM.of (loc := [(0, .ref 16), (1, .int 4)]) (by decide +kernel) rfl (Nat.le_of_ble_eq_true rfl) ?_
  refine V_aload_n dE_init_0 rfl ?_
  refine V_obj rfl dE_init_1 mlE_3 oi oc (by decide) (Nat.le_of_ble_eq_true rfl) ?_
  refine V_aload_n dE_init_4 rfl ?_
  refine V_iconst (v := 4) dE_init_5 (by decide) ?_
  refine V_newI (N := 4) (bs' := 0) dE_init_6 ac_int (Zr_mk (by rw [kl17]; decide +kernel)) (by decide) (by decide) (by decide) (by decide +kernel) (by decide) ?_
  rw [kl17, show KT 17 ++ [(20, 4)] = KT 18 by decide +kernel]
  refine V_putR dE_init_8 flE_9 fpE_6 (by first | exact Or.inl ⟨_, rfl⟩ | exact Or.inr ⟨_, rfl⟩) (Or.inr rfl) (by decide +kernel) rfl ?_
  refine V_eqS (σ' := mkS LI5 LR15) rfl ?_
  refine V_aload_n dE_init_11 rfl ?_
  refine V_iload_n dE_init_12 rfl ?_
  refine V_putI dE_init_13 flE_15 fpE_0 (Or.inr rfl) (by decide +kernel) rfl ?_
  refine V_eqS (σ' := mkS LI6 LR15) rfl ?_
  exact V_ret dE_init_16 rfl (by decide +kernel) ⟨rfl, rfl, rfl⟩
theorem nE_18 {l : Launch} {G : GT} : MM l G mE_init 1 1 4 [.ref 18, .int 5] (KT 19) (mkS LI6 LR16) (PE none (KT 20) (mkS LI7 LR17)) := by
  refine MM.of (loc := [(0, .ref 18), (1, .int 5)]) (by decide +kernel) rfl (Nat.le_of_ble_eq_true rfl) ?_
  refine V_aload_n dE_init_0 rfl ?_
  refine V_obj rfl dE_init_1 mlE_3 oi oc (by decide) (Nat.le_of_ble_eq_true rfl) ?_
  refine V_aload_n dE_init_4 rfl ?_
  refine V_iconst (v := 4) dE_init_5 (by decide) ?_
  refine V_newI (N := 4) (bs' := 0) dE_init_6 ac_int (Zr_mk (by rw [kl19]; decide +kernel)) (by decide) (by decide) (by decide) (by decide +kernel) (by decide) ?_
  rw [kl19, show KT 19 ++ [(20, 4)] = KT 20 by decide +kernel]
  refine V_putR dE_init_8 flE_9 fpE_6 (by first | exact Or.inl ⟨_, rfl⟩ | exact Or.inr ⟨_, rfl⟩) (Or.inr rfl) (by decide +kernel) rfl ?_
  refine V_eqS (σ' := mkS LI6 LR17) rfl ?_
  refine V_aload_n dE_init_11 rfl ?_
  refine V_iload_n dE_init_12 rfl ?_
  refine V_putI dE_init_13 flE_15 fpE_0 (Or.inr rfl) (by decide +kernel) rfl ?_
  refine V_eqS (σ' := mkS LI7 LR17) rfl ?_
  exact V_ret dE_init_16 rfl (by decide +kernel) ⟨rfl, rfl, rfl⟩
theorem nE_20 {l : Launch} {G : GT} : MM l G mE_init 1 1 4 [.ref 20, .int 6] (KT 21) (mkS LI7 LR18) (PE none (KT 22) (mkS LI8 LR19)) := by
  refine MM.of (loc := [(0, .ref 20), (1, .int 6)]) (by decide +kernel) rfl (Nat.le_of_ble_eq_true rfl) ?_
  refine V_aload_n dE_init_0 rfl ?_
  refine V_obj rfl dE_init_1 mlE_3 oi oc (by decide) (Nat.le_of_ble_eq_true rfl) ?_
  refine V_aload_n dE_init_4 rfl ?_
  refine V_iconst (v := 4) dE_init_5 (by decide) ?_
  refine V_newI (N := 4) (bs' := 0) dE_init_6 ac_int (Zr_mk (by rw [kl21]; decide +kernel)) (by decide) (by decide) (by decide) (by decide +kernel) (by decide) ?_
  rw [kl21, show KT 21 ++ [(20, 4)] = KT 22 by decide +kernel]
  refine V_putR dE_init_8 flE_9 fpE_6 (by first | exact Or.inl ⟨_, rfl⟩ | exact Or.inr ⟨_, rfl⟩) (Or.inr rfl) (by decide +kernel) rfl ?_
  refine V_eqS (σ' := mkS LI7 LR19) rfl ?_
  refine V_aload_n dE_init_11 rfl ?_
  refine V_iload_n dE_init_12 rfl ?_
  refine V_putI dE_init_13 flE_15 fpE_0 (Or.inr rfl) (by decide +kernel) rfl ?_
  refine V_eqS (σ' := mkS LI8 LR19) rfl ?_
  exact V_ret dE_init_16 rfl (by decide +kernel) ⟨rfl, rfl, rfl⟩
theorem nE_22 {l : Launch} {G : GT} : MM l G mE_init 1 1 4 [.ref 22, .int 7] (KT 23) (mkS LI8 LR20) (PE none (KT 24) (mkS LI9 LR21)) := by
  refine MM.of (loc := [(0, .ref 22), (1, .int 7)]) (by decide +kernel) rfl (Nat.le_of_ble_eq_true rfl) ?_
  refine V_aload_n dE_init_0 rfl ?_
  refine V_obj rfl dE_init_1 mlE_3 oi oc (by decide) (Nat.le_of_ble_eq_true rfl) ?_
  refine V_aload_n dE_init_4 rfl ?_
  refine V_iconst (v := 4) dE_init_5 (by decide) ?_
  refine V_newI (N := 4) (bs' := 0) dE_init_6 ac_int (Zr_mk (by rw [kl23]; decide +kernel)) (by decide) (by decide) (by decide) (by decide +kernel) (by decide) ?_
  rw [kl23, show KT 23 ++ [(20, 4)] = KT 24 by decide +kernel]
  refine V_putR dE_init_8 flE_9 fpE_6 (by first | exact Or.inl ⟨_, rfl⟩ | exact Or.inr ⟨_, rfl⟩) (Or.inr rfl) (by decide +kernel) rfl ?_
  refine V_eqS (σ' := mkS LI8 LR21) rfl ?_
  refine V_aload_n dE_init_11 rfl ?_
  refine V_iload_n dE_init_12 rfl ?_
  refine V_putI dE_init_13 flE_15 fpE_0 (Or.inr rfl) (by decide +kernel) rfl ?_
  refine V_eqS (σ' := mkS LI9 LR21) rfl ?_
  exact V_ret dE_init_16 rfl (by decide +kernel) ⟨rfl, rfl, rfl⟩
theorem nF_1 {l : Launch} {G : GT} : MM l G mF_init 2 22 154 [.ref 1] (KT 2) (mkS LI0 LR0) (PE none (KT 24) (mkS LI9 LR22)) := by
  refine MM.of (loc := [(0, .ref 1)]) (by decide +kernel) rfl (Nat.le_of_ble_eq_true rfl) ?_
  refine V_aload_n dF_init_0 rfl ?_
  refine V_obj rfl dF_init_1 mlF_3 oi oc (by decide) (Nat.le_of_ble_eq_true rfl) ?_
  refine V_aload_n dF_init_4 rfl ?_
  refine V_bipush (v := 6) dF_init_5 (by decide) ?_
  refine V_newI (N := 6) (bs' := 148) dF_init_7 ac_int (Zr_mk (by rw [kl2]; decide +kernel)) (by decide) (by decide) (by decide) (by decide +kernel) (by decide) ?_
  rw [kl2, show KT 2 ++ [(20, 6)] = KT 3 by decide +kernel]
  refine V_putR dF_init_9 flF_9 fpF_1 (by first | exact Or.inl ⟨_, rfl⟩ | exact Or.inr ⟨_, rfl⟩) (Or.inr rfl) (by decide +kernel) rfl ?_
  refine V_eqS (σ' := mkS LI0 LR1) rfl ?_
  refine V_aload_n dF_init_12 rfl ?_
  refine V_bipush (v := 8) dF_init_13 (by decide) ?_
  refine V_newE (N := 8) (bs' := 140) rfl dF_init_15 clF_15 (Zr_mk (by rw [kl3]; decide +kernel)) (by decide) (by decide) (by decide) (by decide +kernel) (by decide) ?_
  rw [kl3, show KT 3 ++ [(23, 8)] = KT 4 by decide +kernel]
  refine V_putR dF_init_18 flF_17 fpF_3 (by first | exact Or.inl ⟨_, rfl⟩ | exact Or.inr ⟨_, rfl⟩) (Or.inr rfl) (by decide +kernel) rfl ?_
  refine V_eqS (σ' := mkS LI0 LR2) rfl ?_
  refine V_aload_n dF_init_21 rfl ?_
  refine V_iconst (v := -1) dF_init_22 (by decide) ?_
  refine V_putI dF_init_23 flF_21 (fpF_6 _) (Or.inl rfl) (by decide +kernel) rfl ?_
  refine V_eqS (σ' := mkS LI1 LR2) rfl ?_
  refine V_aload_n dF_init_26 rfl ?_
  refine V_new (bs' := 138) tyW rfl dF_init_27 clF_25 insW iniW rfl (by decide) uwW tyW_ok dvW (Zr_mk (by rw [kl4]; decide +kernel)) (by decide +kernel) (by decide) ?_
  rw [kl4, show KT 4 ++ [(6, 2)] = KT 5 by decide +kernel]
  refine V_dup dF_init_30 rfl ?_
  refine V_callIN (host := "GuessFair") (as := []) (rest := [.ref 4, .ref 1]) (bs' := 114) rfl dF_init_31 cmW_init inW_init (by decide) rfl rfl (nW_4 (l := l) (G := G)) (by decide) (by decide +kernel) (by decide) (Nat.le_of_ble_eq_true rfl) ?_
  rintro _ _ _ ⟨rfl, rfl, rfl⟩ -
  refine V_non ?_
  refine V_putR dF_init_34 flF_28 fpF_7 (by first | exact Or.inl ⟨_, rfl⟩ | exact Or.inr ⟨_, rfl⟩) (Or.inr rfl) (by decide +kernel) rfl ?_
  refine V_eqS (σ' := mkS LI1 LR4) rfl ?_
  refine V_aload_n dF_init_37 rfl ?_
  refine V_new (bs' := 112) tyW rfl dF_init_38 clF_25 insW iniW rfl (by decide) uwW tyW_ok dvW (Zr_mk (by rw [kl6]; decide +kernel)) (by decide +kernel) (by decide) ?_
  rw [kl6, show KT 6 ++ [(6, 2)] = KT 7 by decide +kernel]
  refine V_dup dF_init_41 rfl ?_
  refine V_callIN (host := "GuessFair") (as := []) (rest := [.ref 6, .ref 1]) (bs' := 88) rfl dF_init_42 cmW_init inW_init (by decide) rfl rfl (nW_6 (l := l) (G := G)) (by decide) (by decide +kernel) (by decide) (Nat.le_of_ble_eq_true rfl) ?_
  rintro _ _ _ ⟨rfl, rfl, rfl⟩ -
  refine V_non ?_
  refine V_putR dF_init_45 flF_32 fpF_8 (by first | exact Or.inl ⟨_, rfl⟩ | exact Or.inr ⟨_, rfl⟩) (Or.inr rfl) (by decide +kernel) rfl ?_
  refine V_eqS (σ' := mkS LI1 LR6) rfl ?_
  refine V_iconst (v := 0) dF_init_48 (by decide) ?_
  refine V_istore_n (loc' := [(1, .int 0), (0, .ref 1)]) dF_init_49 (by decide) rfl ?_
  refine V_iload_n dF_init_50 rfl ?_
  refine V_bipush (v := 8) dF_init_51 (by decide) ?_
  refine V_icmp_ge (tgt := 76) dF_init_53 rfl (fun h => absurd h (by decide)) (fun _ => ?_)
  refine V_aload_n dF_init_56 rfl ?_
  refine V_getR (a := 3) dF_init_57 flF_17 (by decide +kernel) rfl (by decide +kernel) ?_
  refine V_iload_n dF_init_60 rfl ?_
  refine V_new (bs' := 81) tyE rfl dF_init_61 clF_15 insE iniE rfl (by decide) uwE tyE_ok dvE (Zr_mk (by rw [kl8]; decide +kernel)) (by decide +kernel) (by decide) ?_
  rw [kl8, show KT 8 ++ [(1, 7)] = KT 9 by decide +kernel]
  refine V_dup dF_init_64 rfl ?_
  refine V_iload_n dF_init_65 rfl ?_
  refine V_callI (as := [.int 0]) (rest := [.ref 8, .int 0, .ref 3]) (bs' := 77) rfl dF_init_66 cmE_init inE_init mlF_35 rfl rfl (nE_8 (l := l) (G := G)) (by decide) (by decide +kernel) (by decide) (Nat.le_of_ble_eq_true rfl) ?_
  rintro _ _ _ ⟨rfl, rfl, rfl⟩ -
  refine V_non ?_
  refine V_aast (n2 := 7) dF_init_69 (by decide +kernel) (by decide +kernel) (vp_in_nI (n := 0) (N := 8) (by decide) (by decide)) ?_
  refine V_eqS (σ' := mkS LI2 LR8) (by rw [show (0 : Int32).toNatClampNeg = 0 by decide]; rfl) ?_
  refine V_iinc (v := 1) (loc' := [(1, .int 1), (0, .ref 1)]) dF_init_70 rfl (by decide) (by decide) rfl ?_
  refine V_goto (tgt := 50) dF_init_73 rfl ?_
  refine V_iload_n dF_init_50 rfl ?_
  refine V_bipush (v := 8) dF_init_51 (by decide) ?_
  refine V_icmp_ge (tgt := 76) dF_init_53 rfl (fun h => absurd h (by decide)) (fun _ => ?_)
  refine V_aload_n dF_init_56 rfl ?_
  refine V_getR (a := 3) dF_init_57 flF_17 (by decide +kernel) rfl (by decide +kernel) ?_
  refine V_iload_n dF_init_60 rfl ?_
  refine V_new (bs' := 70) tyE rfl dF_init_61 clF_15 insE iniE rfl (by decide) uwE tyE_ok dvE (Zr_mk (by rw [kl10]; decide +kernel)) (by decide +kernel) (by decide) ?_
  rw [kl10, show KT 10 ++ [(1, 7)] = KT 11 by decide +kernel]
  refine V_dup dF_init_64 rfl ?_
  refine V_iload_n dF_init_65 rfl ?_
  refine V_callI (as := [.int 1]) (rest := [.ref 10, .int 1, .ref 3]) (bs' := 66) rfl dF_init_66 cmE_init inE_init mlF_35 rfl rfl (nE_10 (l := l) (G := G)) (by decide) (by decide +kernel) (by decide) (Nat.le_of_ble_eq_true rfl) ?_
  rintro _ _ _ ⟨rfl, rfl, rfl⟩ -
  refine V_non ?_
  refine V_aast (n2 := 7) dF_init_69 (by decide +kernel) (by decide +kernel) (vp_in_nI (n := 1) (N := 8) (by decide) (by decide)) ?_
  refine V_eqS (σ' := mkS LI3 LR10) (by rw [show (1 : Int32).toNatClampNeg = 1 by decide]; rfl) ?_
  refine V_iinc (v := 2) (loc' := [(1, .int 2), (0, .ref 1)]) dF_init_70 rfl (by decide) (by decide) rfl ?_
  refine V_goto (tgt := 50) dF_init_73 rfl ?_
  refine V_iload_n dF_init_50 rfl ?_
  refine V_bipush (v := 8) dF_init_51 (by decide) ?_
  refine V_icmp_ge (tgt := 76) dF_init_53 rfl (fun h => absurd h (by decide)) (fun _ => ?_)
  refine V_aload_n dF_init_56 rfl ?_
  refine V_getR (a := 3) dF_init_57 flF_17 (by decide +kernel) rfl (by decide +kernel) ?_
  refine V_iload_n dF_init_60 rfl ?_
  refine V_new (bs' := 59) tyE rfl dF_init_61 clF_15 insE iniE rfl (by decide) uwE tyE_ok dvE (Zr_mk (by rw [kl12]; decide +kernel)) (by decide +kernel) (by decide) ?_
  rw [kl12, show KT 12 ++ [(1, 7)] = KT 13 by decide +kernel]
  refine V_dup dF_init_64 rfl ?_
  refine V_iload_n dF_init_65 rfl ?_
  refine V_callI (as := [.int 2]) (rest := [.ref 12, .int 2, .ref 3]) (bs' := 55) rfl dF_init_66 cmE_init inE_init mlF_35 rfl rfl (nE_12 (l := l) (G := G)) (by decide) (by decide +kernel) (by decide) (Nat.le_of_ble_eq_true rfl) ?_
  rintro _ _ _ ⟨rfl, rfl, rfl⟩ -
  refine V_non ?_
  refine V_aast (n2 := 7) dF_init_69 (by decide +kernel) (by decide +kernel) (vp_in_nI (n := 2) (N := 8) (by decide) (by decide)) ?_
  refine V_eqS (σ' := mkS LI4 LR12) (by rw [show (2 : Int32).toNatClampNeg = 2 by decide]; rfl) ?_
  refine V_iinc (v := 3) (loc' := [(1, .int 3), (0, .ref 1)]) dF_init_70 rfl (by decide) (by decide) rfl ?_
  refine V_goto (tgt := 50) dF_init_73 rfl ?_
  refine V_iload_n dF_init_50 rfl ?_
  refine V_bipush (v := 8) dF_init_51 (by decide) ?_
  refine V_icmp_ge (tgt := 76) dF_init_53 rfl (fun h => absurd h (by decide)) (fun _ => ?_)
  refine V_aload_n dF_init_56 rfl ?_
  refine V_getR (a := 3) dF_init_57 flF_17 (by decide +kernel) rfl (by decide +kernel) ?_
  refine V_iload_n dF_init_60 rfl ?_
  refine V_new (bs' := 48) tyE rfl dF_init_61 clF_15 insE iniE rfl (by decide) uwE tyE_ok dvE (Zr_mk (by rw [kl14]; decide +kernel)) (by decide +kernel) (by decide) ?_
  rw [kl14, show KT 14 ++ [(1, 7)] = KT 15 by decide +kernel]
  refine V_dup dF_init_64 rfl ?_
  refine V_iload_n dF_init_65 rfl ?_
  refine V_callI (as := [.int 3]) (rest := [.ref 14, .int 3, .ref 3]) (bs' := 44) rfl dF_init_66 cmE_init inE_init mlF_35 rfl rfl (nE_14 (l := l) (G := G)) (by decide) (by decide +kernel) (by decide) (Nat.le_of_ble_eq_true rfl) ?_
  rintro _ _ _ ⟨rfl, rfl, rfl⟩ -
  refine V_non ?_
  refine V_aast (n2 := 7) dF_init_69 (by decide +kernel) (by decide +kernel) (vp_in_nI (n := 3) (N := 8) (by decide) (by decide)) ?_
  refine V_eqS (σ' := mkS LI5 LR14) (by rw [show (3 : Int32).toNatClampNeg = 3 by decide]; rfl) ?_
  refine V_iinc (v := 4) (loc' := [(1, .int 4), (0, .ref 1)]) dF_init_70 rfl (by decide) (by decide) rfl ?_
  refine V_goto (tgt := 50) dF_init_73 rfl ?_
  refine V_iload_n dF_init_50 rfl ?_
  refine V_bipush (v := 8) dF_init_51 (by decide) ?_
  refine V_icmp_ge (tgt := 76) dF_init_53 rfl (fun h => absurd h (by decide)) (fun _ => ?_)
  refine V_aload_n dF_init_56 rfl ?_
  refine V_getR (a := 3) dF_init_57 flF_17 (by decide +kernel) rfl (by decide +kernel) ?_
  refine V_iload_n dF_init_60 rfl ?_
  refine V_new (bs' := 37) tyE rfl dF_init_61 clF_15 insE iniE rfl (by decide) uwE tyE_ok dvE (Zr_mk (by rw [kl16]; decide +kernel)) (by decide +kernel) (by decide) ?_
  rw [kl16, show KT 16 ++ [(1, 7)] = KT 17 by decide +kernel]
  refine V_dup dF_init_64 rfl ?_
  refine V_iload_n dF_init_65 rfl ?_
  refine V_callI (as := [.int 4]) (rest := [.ref 16, .int 4, .ref 3]) (bs' := 33) rfl dF_init_66 cmE_init inE_init mlF_35 rfl rfl (nE_16 (l := l) (G := G)) (by decide) (by decide +kernel) (by decide) (Nat.le_of_ble_eq_true rfl) ?_
  rintro _ _ _ ⟨rfl, rfl, rfl⟩ -
  refine V_non ?_
  refine V_aast (n2 := 7) dF_init_69 (by decide +kernel) (by decide +kernel) (vp_in_nI (n := 4) (N := 8) (by decide) (by decide)) ?_
  refine V_eqS (σ' := mkS LI6 LR16) (by rw [show (4 : Int32).toNatClampNeg = 4 by decide]; rfl) ?_
  refine V_iinc (v := 5) (loc' := [(1, .int 5), (0, .ref 1)]) dF_init_70 rfl (by decide) (by decide) rfl ?_
  refine V_goto (tgt := 50) dF_init_73 rfl ?_
  refine V_iload_n dF_init_50 rfl ?_
  refine V_bipush (v := 8) dF_init_51 (by decide) ?_
  refine V_icmp_ge (tgt := 76) dF_init_53 rfl (fun h => absurd h (by decide)) (fun _ => ?_)
  refine V_aload_n dF_init_56 rfl ?_
  refine V_getR (a := 3) dF_init_57 flF_17 (by decide +kernel) rfl (by decide +kernel) ?_
  refine V_iload_n dF_init_60 rfl ?_
  refine V_new (bs' := 26) tyE rfl dF_init_61 clF_15 insE iniE rfl (by decide) uwE tyE_ok dvE (Zr_mk (by rw [kl18]; decide +kernel)) (by decide +kernel) (by decide) ?_
  rw [kl18, show KT 18 ++ [(1, 7)] = KT 19 by decide +kernel]
  refine V_dup dF_init_64 rfl ?_
  refine V_iload_n dF_init_65 rfl ?_
  refine V_callI (as := [.int 5]) (rest := [.ref 18, .int 5, .ref 3]) (bs' := 22) rfl dF_init_66 cmE_init inE_init mlF_35 rfl rfl (nE_18 (l := l) (G := G)) (by decide) (by decide +kernel) (by decide) (Nat.le_of_ble_eq_true rfl) ?_
  rintro _ _ _ ⟨rfl, rfl, rfl⟩ -
  refine V_non ?_
  refine V_aast (n2 := 7) dF_init_69 (by decide +kernel) (by decide +kernel) (vp_in_nI (n := 5) (N := 8) (by decide) (by decide)) ?_
  refine V_eqS (σ' := mkS LI7 LR18) (by rw [show (5 : Int32).toNatClampNeg = 5 by decide]; rfl) ?_
  refine V_iinc (v := 6) (loc' := [(1, .int 6), (0, .ref 1)]) dF_init_70 rfl (by decide) (by decide) rfl ?_
  refine V_goto (tgt := 50) dF_init_73 rfl ?_
  refine V_iload_n dF_init_50 rfl ?_
  refine V_bipush (v := 8) dF_init_51 (by decide) ?_
  refine V_icmp_ge (tgt := 76) dF_init_53 rfl (fun h => absurd h (by decide)) (fun _ => ?_)
  refine V_aload_n dF_init_56 rfl ?_
  refine V_getR (a := 3) dF_init_57 flF_17 (by decide +kernel) rfl (by decide +kernel) ?_
  refine V_iload_n dF_init_60 rfl ?_
  refine V_new (bs' := 15) tyE rfl dF_init_61 clF_15 insE iniE rfl (by decide) uwE tyE_ok dvE (Zr_mk (by rw [kl20]; decide +kernel)) (by decide +kernel) (by decide) ?_
  rw [kl20, show KT 20 ++ [(1, 7)] = KT 21 by decide +kernel]
  refine V_dup dF_init_64 rfl ?_
  refine V_iload_n dF_init_65 rfl ?_
  refine V_callI (as := [.int 6]) (rest := [.ref 20, .int 6, .ref 3]) (bs' := 11) rfl dF_init_66 cmE_init inE_init mlF_35 rfl rfl (nE_20 (l := l) (G := G)) (by decide) (by decide +kernel) (by decide) (Nat.le_of_ble_eq_true rfl) ?_
  rintro _ _ _ ⟨rfl, rfl, rfl⟩ -
  refine V_non ?_
  refine V_aast (n2 := 7) dF_init_69 (by decide +kernel) (by decide +kernel) (vp_in_nI (n := 6) (N := 8) (by decide) (by decide)) ?_
  refine V_eqS (σ' := mkS LI8 LR20) (by rw [show (6 : Int32).toNatClampNeg = 6 by decide]; rfl) ?_
  refine V_iinc (v := 7) (loc' := [(1, .int 7), (0, .ref 1)]) dF_init_70 rfl (by decide) (by decide) rfl ?_
  refine V_goto (tgt := 50) dF_init_73 rfl ?_
  refine V_iload_n dF_init_50 rfl ?_
  refine V_bipush (v := 8) dF_init_51 (by decide) ?_
  refine V_icmp_ge (tgt := 76) dF_init_53 rfl (fun h => absurd h (by decide)) (fun _ => ?_)
  refine V_aload_n dF_init_56 rfl ?_
  refine V_getR (a := 3) dF_init_57 flF_17 (by decide +kernel) rfl (by decide +kernel) ?_
  refine V_iload_n dF_init_60 rfl ?_
  refine V_new (bs' := 4) tyE rfl dF_init_61 clF_15 insE iniE rfl (by decide) uwE tyE_ok dvE (Zr_mk (by rw [kl22]; decide +kernel)) (by decide +kernel) (by decide) ?_
  rw [kl22, show KT 22 ++ [(1, 7)] = KT 23 by decide +kernel]
  refine V_dup dF_init_64 rfl ?_
  refine V_iload_n dF_init_65 rfl ?_
  refine V_callI (as := [.int 7]) (rest := [.ref 22, .int 7, .ref 3]) (bs' := 0) rfl dF_init_66 cmE_init inE_init mlF_35 rfl rfl (nE_22 (l := l) (G := G)) (by decide) (by decide +kernel) (by decide) (Nat.le_of_ble_eq_true rfl) ?_
  rintro _ _ _ ⟨rfl, rfl, rfl⟩ -
  refine V_non ?_
  refine V_aast (n2 := 7) dF_init_69 (by decide +kernel) (by decide +kernel) (vp_in_nI (n := 7) (N := 8) (by decide) (by decide)) ?_
  refine V_eqS (σ' := mkS LI9 LR22) (by rw [show (7 : Int32).toNatClampNeg = 7 by decide]; rfl) ?_
  refine V_iinc (v := 8) (loc' := [(1, .int 8), (0, .ref 1)]) dF_init_70 rfl (by decide) (by decide) rfl ?_
  refine V_goto (tgt := 50) dF_init_73 rfl ?_
  refine V_iload_n dF_init_50 rfl ?_
  refine V_bipush (v := 8) dF_init_51 (by decide) ?_
  refine V_icmp_ge (tgt := 76) dF_init_53 rfl (fun _ => ?_) (fun h => absurd h (by decide))
  exact V_ret dF_init_76 rfl (by decide +kernel) ⟨rfl, rfl, rfl⟩
theorem nW_27 {l : Launch} {G : GT} : MM l G mW_init 1 1 24 [.ref 27] (KT 28) (mkS LI10 LR25) (PE none (KT 29) (mkS LI10 LR26)) := by
  refine MM.of (loc := [(0, .ref 27)]) (by decide +kernel) rfl (Nat.le_of_ble_eq_true rfl) ?_
  refine V_aload_n dW_init_0 rfl ?_
  refine V_obj rfl dW_init_1 mlW_3 oi oc (by decide) (Nat.le_of_ble_eq_true rfl) ?_
  refine V_aload_n dW_init_4 rfl ?_
  refine V_bipush (v := 24) dW_init_5 (by decide) ?_
  refine V_newI (N := 24) (bs' := 0) dW_init_7 ac_int (Zr_mk (by rw [kl28]; decide +kernel)) (by decide) (by decide) (by decide) (by decide +kernel) (by decide) ?_
  rw [kl28, show KT 28 ++ [(20, 24)] = KT 29 by decide +kernel]
  refine V_putR dW_init_9 flW_11 fpW_1 (by first | exact Or.inl ⟨_, rfl⟩ | exact Or.inr ⟨_, rfl⟩) (Or.inr rfl) (by decide +kernel) rfl ?_
  refine V_eqS (σ' := mkS LI10 LR26) rfl ?_
  exact V_ret dW_init_12 rfl (by decide +kernel) ⟨rfl, rfl, rfl⟩
theorem nW_29 {l : Launch} {G : GT} : MM l G mW_init 1 1 24 [.ref 29] (KT 30) (mkS LI10 LR27) (PE none (KT 31) (mkS LI10 LR28)) := by
  refine MM.of (loc := [(0, .ref 29)]) (by decide +kernel) rfl (Nat.le_of_ble_eq_true rfl) ?_
  refine V_aload_n dW_init_0 rfl ?_
  refine V_obj rfl dW_init_1 mlW_3 oi oc (by decide) (Nat.le_of_ble_eq_true rfl) ?_
  refine V_aload_n dW_init_4 rfl ?_
  refine V_bipush (v := 24) dW_init_5 (by decide) ?_
  refine V_newI (N := 24) (bs' := 0) dW_init_7 ac_int (Zr_mk (by rw [kl30]; decide +kernel)) (by decide) (by decide) (by decide) (by decide +kernel) (by decide) ?_
  rw [kl30, show KT 30 ++ [(20, 24)] = KT 31 by decide +kernel]
  refine V_putR dW_init_9 flW_11 fpW_1 (by first | exact Or.inl ⟨_, rfl⟩ | exact Or.inr ⟨_, rfl⟩) (Or.inr rfl) (by decide +kernel) rfl ?_
  refine V_eqS (σ' := mkS LI10 LR28) rfl ?_
  exact V_ret dW_init_12 rfl (by decide +kernel) ⟨rfl, rfl, rfl⟩
theorem nE_31 {l : Launch} {G : GT} : MM l G mE_init 1 1 4 [.ref 31, .int 0] (KT 32) (mkS LI10 LR29) (PE none (KT 33) (mkS LI11 LR30)) := by
  refine MM.of (loc := [(0, .ref 31), (1, .int 0)]) (by decide +kernel) rfl (Nat.le_of_ble_eq_true rfl) ?_
  refine V_aload_n dE_init_0 rfl ?_
  refine V_obj rfl dE_init_1 mlE_3 oi oc (by decide) (Nat.le_of_ble_eq_true rfl) ?_
  refine V_aload_n dE_init_4 rfl ?_
  refine V_iconst (v := 4) dE_init_5 (by decide) ?_
  refine V_newI (N := 4) (bs' := 0) dE_init_6 ac_int (Zr_mk (by rw [kl32]; decide +kernel)) (by decide) (by decide) (by decide) (by decide +kernel) (by decide) ?_
  rw [kl32, show KT 32 ++ [(20, 4)] = KT 33 by decide +kernel]
  refine V_putR dE_init_8 flE_9 fpE_6 (by first | exact Or.inl ⟨_, rfl⟩ | exact Or.inr ⟨_, rfl⟩) (Or.inr rfl) (by decide +kernel) rfl ?_
  refine V_eqS (σ' := mkS LI10 LR30) rfl ?_
  refine V_aload_n dE_init_11 rfl ?_
  refine V_iload_n dE_init_12 rfl ?_
  refine V_putI dE_init_13 flE_15 fpE_0 (Or.inr rfl) (by decide +kernel) rfl ?_
  refine V_eqS (σ' := mkS LI11 LR30) rfl ?_
  exact V_ret dE_init_16 rfl (by decide +kernel) ⟨rfl, rfl, rfl⟩
theorem nE_33 {l : Launch} {G : GT} : MM l G mE_init 1 1 4 [.ref 33, .int 1] (KT 34) (mkS LI11 LR31) (PE none (KT 35) (mkS LI12 LR32)) := by
  refine MM.of (loc := [(0, .ref 33), (1, .int 1)]) (by decide +kernel) rfl (Nat.le_of_ble_eq_true rfl) ?_
  refine V_aload_n dE_init_0 rfl ?_
  refine V_obj rfl dE_init_1 mlE_3 oi oc (by decide) (Nat.le_of_ble_eq_true rfl) ?_
  refine V_aload_n dE_init_4 rfl ?_
  refine V_iconst (v := 4) dE_init_5 (by decide) ?_
  refine V_newI (N := 4) (bs' := 0) dE_init_6 ac_int (Zr_mk (by rw [kl34]; decide +kernel)) (by decide) (by decide) (by decide) (by decide +kernel) (by decide) ?_
  rw [kl34, show KT 34 ++ [(20, 4)] = KT 35 by decide +kernel]
  refine V_putR dE_init_8 flE_9 fpE_6 (by first | exact Or.inl ⟨_, rfl⟩ | exact Or.inr ⟨_, rfl⟩) (Or.inr rfl) (by decide +kernel) rfl ?_
  refine V_eqS (σ' := mkS LI11 LR32) rfl ?_
  refine V_aload_n dE_init_11 rfl ?_
  refine V_iload_n dE_init_12 rfl ?_
  refine V_putI dE_init_13 flE_15 fpE_0 (Or.inr rfl) (by decide +kernel) rfl ?_
  refine V_eqS (σ' := mkS LI12 LR32) rfl ?_
  exact V_ret dE_init_16 rfl (by decide +kernel) ⟨rfl, rfl, rfl⟩
theorem nE_35 {l : Launch} {G : GT} : MM l G mE_init 1 1 4 [.ref 35, .int 2] (KT 36) (mkS LI12 LR33) (PE none (KT 37) (mkS LI13 LR34)) := by
  refine MM.of (loc := [(0, .ref 35), (1, .int 2)]) (by decide +kernel) rfl (Nat.le_of_ble_eq_true rfl) ?_
  refine V_aload_n dE_init_0 rfl ?_
  refine V_obj rfl dE_init_1 mlE_3 oi oc (by decide) (Nat.le_of_ble_eq_true rfl) ?_
  refine V_aload_n dE_init_4 rfl ?_
  refine V_iconst (v := 4) dE_init_5 (by decide) ?_
  refine V_newI (N := 4) (bs' := 0) dE_init_6 ac_int (Zr_mk (by rw [kl36]; decide +kernel)) (by decide) (by decide) (by decide) (by decide +kernel) (by decide) ?_
  rw [kl36, show KT 36 ++ [(20, 4)] = KT 37 by decide +kernel]
  refine V_putR dE_init_8 flE_9 fpE_6 (by first | exact Or.inl ⟨_, rfl⟩ | exact Or.inr ⟨_, rfl⟩) (Or.inr rfl) (by decide +kernel) rfl ?_
  refine V_eqS (σ' := mkS LI12 LR34) rfl ?_
  refine V_aload_n dE_init_11 rfl ?_
  refine V_iload_n dE_init_12 rfl ?_
  refine V_putI dE_init_13 flE_15 fpE_0 (Or.inr rfl) (by decide +kernel) rfl ?_
  refine V_eqS (σ' := mkS LI13 LR34) rfl ?_
  exact V_ret dE_init_16 rfl (by decide +kernel) ⟨rfl, rfl, rfl⟩
theorem nE_37 {l : Launch} {G : GT} : MM l G mE_init 1 1 4 [.ref 37, .int 3] (KT 38) (mkS LI13 LR35) (PE none (KT 39) (mkS LI14 LR36)) := by
  refine MM.of (loc := [(0, .ref 37), (1, .int 3)]) (by decide +kernel) rfl (Nat.le_of_ble_eq_true rfl) ?_
  refine V_aload_n dE_init_0 rfl ?_
  refine V_obj rfl dE_init_1 mlE_3 oi oc (by decide) (Nat.le_of_ble_eq_true rfl) ?_
  refine V_aload_n dE_init_4 rfl ?_
  refine V_iconst (v := 4) dE_init_5 (by decide) ?_
  refine V_newI (N := 4) (bs' := 0) dE_init_6 ac_int (Zr_mk (by rw [kl38]; decide +kernel)) (by decide) (by decide) (by decide) (by decide +kernel) (by decide) ?_
  rw [kl38, show KT 38 ++ [(20, 4)] = KT 39 by decide +kernel]
  refine V_putR dE_init_8 flE_9 fpE_6 (by first | exact Or.inl ⟨_, rfl⟩ | exact Or.inr ⟨_, rfl⟩) (Or.inr rfl) (by decide +kernel) rfl ?_
  refine V_eqS (σ' := mkS LI13 LR36) rfl ?_
  refine V_aload_n dE_init_11 rfl ?_
  refine V_iload_n dE_init_12 rfl ?_
  refine V_putI dE_init_13 flE_15 fpE_0 (Or.inr rfl) (by decide +kernel) rfl ?_
  refine V_eqS (σ' := mkS LI14 LR36) rfl ?_
  exact V_ret dE_init_16 rfl (by decide +kernel) ⟨rfl, rfl, rfl⟩
theorem nE_39 {l : Launch} {G : GT} : MM l G mE_init 1 1 4 [.ref 39, .int 4] (KT 40) (mkS LI14 LR37) (PE none (KT 41) (mkS LI15 LR38)) := by
  refine MM.of (loc := [(0, .ref 39), (1, .int 4)]) (by decide +kernel) rfl (Nat.le_of_ble_eq_true rfl) ?_
  refine V_aload_n dE_init_0 rfl ?_
  refine V_obj rfl dE_init_1 mlE_3 oi oc (by decide) (Nat.le_of_ble_eq_true rfl) ?_
  refine V_aload_n dE_init_4 rfl ?_
  refine V_iconst (v := 4) dE_init_5 (by decide) ?_
  refine V_newI (N := 4) (bs' := 0) dE_init_6 ac_int (Zr_mk (by rw [kl40]; decide +kernel)) (by decide) (by decide) (by decide) (by decide +kernel) (by decide) ?_
  rw [kl40, show KT 40 ++ [(20, 4)] = KT 41 by decide +kernel]
  refine V_putR dE_init_8 flE_9 fpE_6 (by first | exact Or.inl ⟨_, rfl⟩ | exact Or.inr ⟨_, rfl⟩) (Or.inr rfl) (by decide +kernel) rfl ?_
  refine V_eqS (σ' := mkS LI14 LR38) rfl ?_
  refine V_aload_n dE_init_11 rfl ?_
  refine V_iload_n dE_init_12 rfl ?_
  refine V_putI dE_init_13 flE_15 fpE_0 (Or.inr rfl) (by decide +kernel) rfl ?_
  refine V_eqS (σ' := mkS LI15 LR38) rfl ?_
  exact V_ret dE_init_16 rfl (by decide +kernel) ⟨rfl, rfl, rfl⟩
theorem nE_41 {l : Launch} {G : GT} : MM l G mE_init 1 1 4 [.ref 41, .int 5] (KT 42) (mkS LI15 LR39) (PE none (KT 43) (mkS LI16 LR40)) := by
  refine MM.of (loc := [(0, .ref 41), (1, .int 5)]) (by decide +kernel) rfl (Nat.le_of_ble_eq_true rfl) ?_
  refine V_aload_n dE_init_0 rfl ?_
  refine V_obj rfl dE_init_1 mlE_3 oi oc (by decide) (Nat.le_of_ble_eq_true rfl) ?_
  refine V_aload_n dE_init_4 rfl ?_
  refine V_iconst (v := 4) dE_init_5 (by decide) ?_
  refine V_newI (N := 4) (bs' := 0) dE_init_6 ac_int (Zr_mk (by rw [kl42]; decide +kernel)) (by decide) (by decide) (by decide) (by decide +kernel) (by decide) ?_
  rw [kl42, show KT 42 ++ [(20, 4)] = KT 43 by decide +kernel]
  refine V_putR dE_init_8 flE_9 fpE_6 (by first | exact Or.inl ⟨_, rfl⟩ | exact Or.inr ⟨_, rfl⟩) (Or.inr rfl) (by decide +kernel) rfl ?_
  refine V_eqS (σ' := mkS LI15 LR40) rfl ?_
  refine V_aload_n dE_init_11 rfl ?_
  refine V_iload_n dE_init_12 rfl ?_
  refine V_putI dE_init_13 flE_15 fpE_0 (Or.inr rfl) (by decide +kernel) rfl ?_
  refine V_eqS (σ' := mkS LI16 LR40) rfl ?_
  exact V_ret dE_init_16 rfl (by decide +kernel) ⟨rfl, rfl, rfl⟩
theorem nE_43 {l : Launch} {G : GT} : MM l G mE_init 1 1 4 [.ref 43, .int 6] (KT 44) (mkS LI16 LR41) (PE none (KT 45) (mkS LI17 LR42)) := by
  refine MM.of (loc := [(0, .ref 43), (1, .int 6)]) (by decide +kernel) rfl (Nat.le_of_ble_eq_true rfl) ?_
  refine V_aload_n dE_init_0 rfl ?_
  refine V_obj rfl dE_init_1 mlE_3 oi oc (by decide) (Nat.le_of_ble_eq_true rfl) ?_
  refine V_aload_n dE_init_4 rfl ?_
  refine V_iconst (v := 4) dE_init_5 (by decide) ?_
  refine V_newI (N := 4) (bs' := 0) dE_init_6 ac_int (Zr_mk (by rw [kl44]; decide +kernel)) (by decide) (by decide) (by decide) (by decide +kernel) (by decide) ?_
  rw [kl44, show KT 44 ++ [(20, 4)] = KT 45 by decide +kernel]
  refine V_putR dE_init_8 flE_9 fpE_6 (by first | exact Or.inl ⟨_, rfl⟩ | exact Or.inr ⟨_, rfl⟩) (Or.inr rfl) (by decide +kernel) rfl ?_
  refine V_eqS (σ' := mkS LI16 LR42) rfl ?_
  refine V_aload_n dE_init_11 rfl ?_
  refine V_iload_n dE_init_12 rfl ?_
  refine V_putI dE_init_13 flE_15 fpE_0 (Or.inr rfl) (by decide +kernel) rfl ?_
  refine V_eqS (σ' := mkS LI17 LR42) rfl ?_
  exact V_ret dE_init_16 rfl (by decide +kernel) ⟨rfl, rfl, rfl⟩
theorem nE_45 {l : Launch} {G : GT} : MM l G mE_init 1 1 4 [.ref 45, .int 7] (KT 46) (mkS LI17 LR43) (PE none (KT 47) (mkS LI18 LR44)) := by
  refine MM.of (loc := [(0, .ref 45), (1, .int 7)]) (by decide +kernel) rfl (Nat.le_of_ble_eq_true rfl) ?_
  refine V_aload_n dE_init_0 rfl ?_
  refine V_obj rfl dE_init_1 mlE_3 oi oc (by decide) (Nat.le_of_ble_eq_true rfl) ?_
  refine V_aload_n dE_init_4 rfl ?_
  refine V_iconst (v := 4) dE_init_5 (by decide) ?_
  refine V_newI (N := 4) (bs' := 0) dE_init_6 ac_int (Zr_mk (by rw [kl46]; decide +kernel)) (by decide) (by decide) (by decide) (by decide +kernel) (by decide) ?_
  rw [kl46, show KT 46 ++ [(20, 4)] = KT 47 by decide +kernel]
  refine V_putR dE_init_8 flE_9 fpE_6 (by first | exact Or.inl ⟨_, rfl⟩ | exact Or.inr ⟨_, rfl⟩) (Or.inr rfl) (by decide +kernel) rfl ?_
  refine V_eqS (σ' := mkS LI17 LR44) rfl ?_
  refine V_aload_n dE_init_11 rfl ?_
  refine V_iload_n dE_init_12 rfl ?_
  refine V_putI dE_init_13 flE_15 fpE_0 (Or.inr rfl) (by decide +kernel) rfl ?_
  refine V_eqS (σ' := mkS LI18 LR44) rfl ?_
  exact V_ret dE_init_16 rfl (by decide +kernel) ⟨rfl, rfl, rfl⟩
theorem nF_24 {l : Launch} {G : GT} : MM l G mF_init 2 22 154 [.ref 24] (KT 25) (mkS LI9 LR23) (PE none (KT 47) (mkS LI18 LR45)) := by
  refine MM.of (loc := [(0, .ref 24)]) (by decide +kernel) rfl (Nat.le_of_ble_eq_true rfl) ?_
  refine V_aload_n dF_init_0 rfl ?_
  refine V_obj rfl dF_init_1 mlF_3 oi oc (by decide) (Nat.le_of_ble_eq_true rfl) ?_
  refine V_aload_n dF_init_4 rfl ?_
  refine V_bipush (v := 6) dF_init_5 (by decide) ?_
  refine V_newI (N := 6) (bs' := 148) dF_init_7 ac_int (Zr_mk (by rw [kl25]; decide +kernel)) (by decide) (by decide) (by decide) (by decide +kernel) (by decide) ?_
  rw [kl25, show KT 25 ++ [(20, 6)] = KT 26 by decide +kernel]
  refine V_putR dF_init_9 flF_9 fpF_1 (by first | exact Or.inl ⟨_, rfl⟩ | exact Or.inr ⟨_, rfl⟩) (Or.inr rfl) (by decide +kernel) rfl ?_
  refine V_eqS (σ' := mkS LI9 LR24) rfl ?_
  refine V_aload_n dF_init_12 rfl ?_
  refine V_bipush (v := 8) dF_init_13 (by decide) ?_
  refine V_newE (N := 8) (bs' := 140) rfl dF_init_15 clF_15 (Zr_mk (by rw [kl26]; decide +kernel)) (by decide) (by decide) (by decide) (by decide +kernel) (by decide) ?_
  rw [kl26, show KT 26 ++ [(23, 8)] = KT 27 by decide +kernel]
  refine V_putR dF_init_18 flF_17 fpF_3 (by first | exact Or.inl ⟨_, rfl⟩ | exact Or.inr ⟨_, rfl⟩) (Or.inr rfl) (by decide +kernel) rfl ?_
  refine V_eqS (σ' := mkS LI9 LR25) rfl ?_
  refine V_aload_n dF_init_21 rfl ?_
  refine V_iconst (v := -1) dF_init_22 (by decide) ?_
  refine V_putI dF_init_23 flF_21 (fpF_6 _) (Or.inl rfl) (by decide +kernel) rfl ?_
  refine V_eqS (σ' := mkS LI10 LR25) rfl ?_
  refine V_aload_n dF_init_26 rfl ?_
  refine V_new (bs' := 138) tyW rfl dF_init_27 clF_25 insW iniW rfl (by decide) uwW tyW_ok dvW (Zr_mk (by rw [kl27]; decide +kernel)) (by decide +kernel) (by decide) ?_
  rw [kl27, show KT 27 ++ [(6, 2)] = KT 28 by decide +kernel]
  refine V_dup dF_init_30 rfl ?_
  refine V_callIN (host := "GuessFair") (as := []) (rest := [.ref 27, .ref 24]) (bs' := 114) rfl dF_init_31 cmW_init inW_init (by decide) rfl rfl (nW_27 (l := l) (G := G)) (by decide) (by decide +kernel) (by decide) (Nat.le_of_ble_eq_true rfl) ?_
  rintro _ _ _ ⟨rfl, rfl, rfl⟩ -
  refine V_non ?_
  refine V_putR dF_init_34 flF_28 fpF_7 (by first | exact Or.inl ⟨_, rfl⟩ | exact Or.inr ⟨_, rfl⟩) (Or.inr rfl) (by decide +kernel) rfl ?_
  refine V_eqS (σ' := mkS LI10 LR27) rfl ?_
  refine V_aload_n dF_init_37 rfl ?_
  refine V_new (bs' := 112) tyW rfl dF_init_38 clF_25 insW iniW rfl (by decide) uwW tyW_ok dvW (Zr_mk (by rw [kl29]; decide +kernel)) (by decide +kernel) (by decide) ?_
  rw [kl29, show KT 29 ++ [(6, 2)] = KT 30 by decide +kernel]
  refine V_dup dF_init_41 rfl ?_
  refine V_callIN (host := "GuessFair") (as := []) (rest := [.ref 29, .ref 24]) (bs' := 88) rfl dF_init_42 cmW_init inW_init (by decide) rfl rfl (nW_29 (l := l) (G := G)) (by decide) (by decide +kernel) (by decide) (Nat.le_of_ble_eq_true rfl) ?_
  rintro _ _ _ ⟨rfl, rfl, rfl⟩ -
  refine V_non ?_
  refine V_putR dF_init_45 flF_32 fpF_8 (by first | exact Or.inl ⟨_, rfl⟩ | exact Or.inr ⟨_, rfl⟩) (Or.inr rfl) (by decide +kernel) rfl ?_
  refine V_eqS (σ' := mkS LI10 LR29) rfl ?_
  refine V_iconst (v := 0) dF_init_48 (by decide) ?_
  refine V_istore_n (loc' := [(1, .int 0), (0, .ref 24)]) dF_init_49 (by decide) rfl ?_
  refine V_iload_n dF_init_50 rfl ?_
  refine V_bipush (v := 8) dF_init_51 (by decide) ?_
  refine V_icmp_ge (tgt := 76) dF_init_53 rfl (fun h => absurd h (by decide)) (fun _ => ?_)
  refine V_aload_n dF_init_56 rfl ?_
  refine V_getR (a := 26) dF_init_57 flF_17 (by decide +kernel) rfl (by decide +kernel) ?_
  refine V_iload_n dF_init_60 rfl ?_
  refine V_new (bs' := 81) tyE rfl dF_init_61 clF_15 insE iniE rfl (by decide) uwE tyE_ok dvE (Zr_mk (by rw [kl31]; decide +kernel)) (by decide +kernel) (by decide) ?_
  rw [kl31, show KT 31 ++ [(1, 7)] = KT 32 by decide +kernel]
  refine V_dup dF_init_64 rfl ?_
  refine V_iload_n dF_init_65 rfl ?_
  refine V_callI (as := [.int 0]) (rest := [.ref 31, .int 0, .ref 26]) (bs' := 77) rfl dF_init_66 cmE_init inE_init mlF_35 rfl rfl (nE_31 (l := l) (G := G)) (by decide) (by decide +kernel) (by decide) (Nat.le_of_ble_eq_true rfl) ?_
  rintro _ _ _ ⟨rfl, rfl, rfl⟩ -
  refine V_non ?_
  refine V_aast (n2 := 7) dF_init_69 (by decide +kernel) (by decide +kernel) (vp_in_nI (n := 0) (N := 8) (by decide) (by decide)) ?_
  refine V_eqS (σ' := mkS LI11 LR31) (by rw [show (0 : Int32).toNatClampNeg = 0 by decide]; rfl) ?_
  refine V_iinc (v := 1) (loc' := [(1, .int 1), (0, .ref 24)]) dF_init_70 rfl (by decide) (by decide) rfl ?_
  refine V_goto (tgt := 50) dF_init_73 rfl ?_
  refine V_iload_n dF_init_50 rfl ?_
  refine V_bipush (v := 8) dF_init_51 (by decide) ?_
  refine V_icmp_ge (tgt := 76) dF_init_53 rfl (fun h => absurd h (by decide)) (fun _ => ?_)
  refine V_aload_n dF_init_56 rfl ?_
  refine V_getR (a := 26) dF_init_57 flF_17 (by decide +kernel) rfl (by decide +kernel) ?_
  refine V_iload_n dF_init_60 rfl ?_
  refine V_new (bs' := 70) tyE rfl dF_init_61 clF_15 insE iniE rfl (by decide) uwE tyE_ok dvE (Zr_mk (by rw [kl33]; decide +kernel)) (by decide +kernel) (by decide) ?_
  rw [kl33, show KT 33 ++ [(1, 7)] = KT 34 by decide +kernel]
  refine V_dup dF_init_64 rfl ?_
  refine V_iload_n dF_init_65 rfl ?_
  refine V_callI (as := [.int 1]) (rest := [.ref 33, .int 1, .ref 26]) (bs' := 66) rfl dF_init_66 cmE_init inE_init mlF_35 rfl rfl (nE_33 (l := l) (G := G)) (by decide) (by decide +kernel) (by decide) (Nat.le_of_ble_eq_true rfl) ?_
  rintro _ _ _ ⟨rfl, rfl, rfl⟩ -
  refine V_non ?_
  refine V_aast (n2 := 7) dF_init_69 (by decide +kernel) (by decide +kernel) (vp_in_nI (n := 1) (N := 8) (by decide) (by decide)) ?_
  refine V_eqS (σ' := mkS LI12 LR33) (by rw [show (1 : Int32).toNatClampNeg = 1 by decide]; rfl) ?_
  refine V_iinc (v := 2) (loc' := [(1, .int 2), (0, .ref 24)]) dF_init_70 rfl (by decide) (by decide) rfl ?_
  refine V_goto (tgt := 50) dF_init_73 rfl ?_
  refine V_iload_n dF_init_50 rfl ?_
  refine V_bipush (v := 8) dF_init_51 (by decide) ?_
  refine V_icmp_ge (tgt := 76) dF_init_53 rfl (fun h => absurd h (by decide)) (fun _ => ?_)
  refine V_aload_n dF_init_56 rfl ?_
  refine V_getR (a := 26) dF_init_57 flF_17 (by decide +kernel) rfl (by decide +kernel) ?_
  refine V_iload_n dF_init_60 rfl ?_
  refine V_new (bs' := 59) tyE rfl dF_init_61 clF_15 insE iniE rfl (by decide) uwE tyE_ok dvE (Zr_mk (by rw [kl35]; decide +kernel)) (by decide +kernel) (by decide) ?_
  rw [kl35, show KT 35 ++ [(1, 7)] = KT 36 by decide +kernel]
  refine V_dup dF_init_64 rfl ?_
  refine V_iload_n dF_init_65 rfl ?_
  refine V_callI (as := [.int 2]) (rest := [.ref 35, .int 2, .ref 26]) (bs' := 55) rfl dF_init_66 cmE_init inE_init mlF_35 rfl rfl (nE_35 (l := l) (G := G)) (by decide) (by decide +kernel) (by decide) (Nat.le_of_ble_eq_true rfl) ?_
  rintro _ _ _ ⟨rfl, rfl, rfl⟩ -
  refine V_non ?_
  refine V_aast (n2 := 7) dF_init_69 (by decide +kernel) (by decide +kernel) (vp_in_nI (n := 2) (N := 8) (by decide) (by decide)) ?_
  refine V_eqS (σ' := mkS LI13 LR35) (by rw [show (2 : Int32).toNatClampNeg = 2 by decide]; rfl) ?_
  refine V_iinc (v := 3) (loc' := [(1, .int 3), (0, .ref 24)]) dF_init_70 rfl (by decide) (by decide) rfl ?_
  refine V_goto (tgt := 50) dF_init_73 rfl ?_
  refine V_iload_n dF_init_50 rfl ?_
  refine V_bipush (v := 8) dF_init_51 (by decide) ?_
  refine V_icmp_ge (tgt := 76) dF_init_53 rfl (fun h => absurd h (by decide)) (fun _ => ?_)
  refine V_aload_n dF_init_56 rfl ?_
  refine V_getR (a := 26) dF_init_57 flF_17 (by decide +kernel) rfl (by decide +kernel) ?_
  refine V_iload_n dF_init_60 rfl ?_
  refine V_new (bs' := 48) tyE rfl dF_init_61 clF_15 insE iniE rfl (by decide) uwE tyE_ok dvE (Zr_mk (by rw [kl37]; decide +kernel)) (by decide +kernel) (by decide) ?_
  rw [kl37, show KT 37 ++ [(1, 7)] = KT 38 by decide +kernel]
  refine V_dup dF_init_64 rfl ?_
  refine V_iload_n dF_init_65 rfl ?_
  refine V_callI (as := [.int 3]) (rest := [.ref 37, .int 3, .ref 26]) (bs' := 44) rfl dF_init_66 cmE_init inE_init mlF_35 rfl rfl (nE_37 (l := l) (G := G)) (by decide) (by decide +kernel) (by decide) (Nat.le_of_ble_eq_true rfl) ?_
  rintro _ _ _ ⟨rfl, rfl, rfl⟩ -
  refine V_non ?_
  refine V_aast (n2 := 7) dF_init_69 (by decide +kernel) (by decide +kernel) (vp_in_nI (n := 3) (N := 8) (by decide) (by decide)) ?_
  refine V_eqS (σ' := mkS LI14 LR37) (by rw [show (3 : Int32).toNatClampNeg = 3 by decide]; rfl) ?_
  refine V_iinc (v := 4) (loc' := [(1, .int 4), (0, .ref 24)]) dF_init_70 rfl (by decide) (by decide) rfl ?_
  refine V_goto (tgt := 50) dF_init_73 rfl ?_
  refine V_iload_n dF_init_50 rfl ?_
  refine V_bipush (v := 8) dF_init_51 (by decide) ?_
  refine V_icmp_ge (tgt := 76) dF_init_53 rfl (fun h => absurd h (by decide)) (fun _ => ?_)
  refine V_aload_n dF_init_56 rfl ?_
  refine V_getR (a := 26) dF_init_57 flF_17 (by decide +kernel) rfl (by decide +kernel) ?_
  refine V_iload_n dF_init_60 rfl ?_
  refine V_new (bs' := 37) tyE rfl dF_init_61 clF_15 insE iniE rfl (by decide) uwE tyE_ok dvE (Zr_mk (by rw [kl39]; decide +kernel)) (by decide +kernel) (by decide) ?_
  rw [kl39, show KT 39 ++ [(1, 7)] = KT 40 by decide +kernel]
  refine V_dup dF_init_64 rfl ?_
  refine V_iload_n dF_init_65 rfl ?_
  refine V_callI (as := [.int 4]) (rest := [.ref 39, .int 4, .ref 26]) (bs' := 33) rfl dF_init_66 cmE_init inE_init mlF_35 rfl rfl (nE_39 (l := l) (G := G)) (by decide) (by decide +kernel) (by decide) (Nat.le_of_ble_eq_true rfl) ?_
  rintro _ _ _ ⟨rfl, rfl, rfl⟩ -
  refine V_non ?_
  refine V_aast (n2 := 7) dF_init_69 (by decide +kernel) (by decide +kernel) (vp_in_nI (n := 4) (N := 8) (by decide) (by decide)) ?_
  refine V_eqS (σ' := mkS LI15 LR39) (by rw [show (4 : Int32).toNatClampNeg = 4 by decide]; rfl) ?_
  refine V_iinc (v := 5) (loc' := [(1, .int 5), (0, .ref 24)]) dF_init_70 rfl (by decide) (by decide) rfl ?_
  refine V_goto (tgt := 50) dF_init_73 rfl ?_
  refine V_iload_n dF_init_50 rfl ?_
  refine V_bipush (v := 8) dF_init_51 (by decide) ?_
  refine V_icmp_ge (tgt := 76) dF_init_53 rfl (fun h => absurd h (by decide)) (fun _ => ?_)
  refine V_aload_n dF_init_56 rfl ?_
  refine V_getR (a := 26) dF_init_57 flF_17 (by decide +kernel) rfl (by decide +kernel) ?_
  refine V_iload_n dF_init_60 rfl ?_
  refine V_new (bs' := 26) tyE rfl dF_init_61 clF_15 insE iniE rfl (by decide) uwE tyE_ok dvE (Zr_mk (by rw [kl41]; decide +kernel)) (by decide +kernel) (by decide) ?_
  rw [kl41, show KT 41 ++ [(1, 7)] = KT 42 by decide +kernel]
  refine V_dup dF_init_64 rfl ?_
  refine V_iload_n dF_init_65 rfl ?_
  refine V_callI (as := [.int 5]) (rest := [.ref 41, .int 5, .ref 26]) (bs' := 22) rfl dF_init_66 cmE_init inE_init mlF_35 rfl rfl (nE_41 (l := l) (G := G)) (by decide) (by decide +kernel) (by decide) (Nat.le_of_ble_eq_true rfl) ?_
  rintro _ _ _ ⟨rfl, rfl, rfl⟩ -
  refine V_non ?_
  refine V_aast (n2 := 7) dF_init_69 (by decide +kernel) (by decide +kernel) (vp_in_nI (n := 5) (N := 8) (by decide) (by decide)) ?_
  refine V_eqS (σ' := mkS LI16 LR41) (by rw [show (5 : Int32).toNatClampNeg = 5 by decide]; rfl) ?_
  refine V_iinc (v := 6) (loc' := [(1, .int 6), (0, .ref 24)]) dF_init_70 rfl (by decide) (by decide) rfl ?_
  refine V_goto (tgt := 50) dF_init_73 rfl ?_
  refine V_iload_n dF_init_50 rfl ?_
  refine V_bipush (v := 8) dF_init_51 (by decide) ?_
  refine V_icmp_ge (tgt := 76) dF_init_53 rfl (fun h => absurd h (by decide)) (fun _ => ?_)
  refine V_aload_n dF_init_56 rfl ?_
  refine V_getR (a := 26) dF_init_57 flF_17 (by decide +kernel) rfl (by decide +kernel) ?_
  refine V_iload_n dF_init_60 rfl ?_
  refine V_new (bs' := 15) tyE rfl dF_init_61 clF_15 insE iniE rfl (by decide) uwE tyE_ok dvE (Zr_mk (by rw [kl43]; decide +kernel)) (by decide +kernel) (by decide) ?_
  rw [kl43, show KT 43 ++ [(1, 7)] = KT 44 by decide +kernel]
  refine V_dup dF_init_64 rfl ?_
  refine V_iload_n dF_init_65 rfl ?_
  refine V_callI (as := [.int 6]) (rest := [.ref 43, .int 6, .ref 26]) (bs' := 11) rfl dF_init_66 cmE_init inE_init mlF_35 rfl rfl (nE_43 (l := l) (G := G)) (by decide) (by decide +kernel) (by decide) (Nat.le_of_ble_eq_true rfl) ?_
  rintro _ _ _ ⟨rfl, rfl, rfl⟩ -
  refine V_non ?_
  refine V_aast (n2 := 7) dF_init_69 (by decide +kernel) (by decide +kernel) (vp_in_nI (n := 6) (N := 8) (by decide) (by decide)) ?_
  refine V_eqS (σ' := mkS LI17 LR43) (by rw [show (6 : Int32).toNatClampNeg = 6 by decide]; rfl) ?_
  refine V_iinc (v := 7) (loc' := [(1, .int 7), (0, .ref 24)]) dF_init_70 rfl (by decide) (by decide) rfl ?_
  refine V_goto (tgt := 50) dF_init_73 rfl ?_
  refine V_iload_n dF_init_50 rfl ?_
  refine V_bipush (v := 8) dF_init_51 (by decide) ?_
  refine V_icmp_ge (tgt := 76) dF_init_53 rfl (fun h => absurd h (by decide)) (fun _ => ?_)
  refine V_aload_n dF_init_56 rfl ?_
  refine V_getR (a := 26) dF_init_57 flF_17 (by decide +kernel) rfl (by decide +kernel) ?_
  refine V_iload_n dF_init_60 rfl ?_
  refine V_new (bs' := 4) tyE rfl dF_init_61 clF_15 insE iniE rfl (by decide) uwE tyE_ok dvE (Zr_mk (by rw [kl45]; decide +kernel)) (by decide +kernel) (by decide) ?_
  rw [kl45, show KT 45 ++ [(1, 7)] = KT 46 by decide +kernel]
  refine V_dup dF_init_64 rfl ?_
  refine V_iload_n dF_init_65 rfl ?_
  refine V_callI (as := [.int 7]) (rest := [.ref 45, .int 7, .ref 26]) (bs' := 0) rfl dF_init_66 cmE_init inE_init mlF_35 rfl rfl (nE_45 (l := l) (G := G)) (by decide) (by decide +kernel) (by decide) (Nat.le_of_ble_eq_true rfl) ?_
  rintro _ _ _ ⟨rfl, rfl, rfl⟩ -
  refine V_non ?_
  refine V_aast (n2 := 7) dF_init_69 (by decide +kernel) (by decide +kernel) (vp_in_nI (n := 7) (N := 8) (by decide) (by decide)) ?_
  refine V_eqS (σ' := mkS LI18 LR45) (by rw [show (7 : Int32).toNatClampNeg = 7 by decide]; rfl) ?_
  refine V_iinc (v := 8) (loc' := [(1, .int 8), (0, .ref 24)]) dF_init_70 rfl (by decide) (by decide) rfl ?_
  refine V_goto (tgt := 50) dF_init_73 rfl ?_
  refine V_iload_n dF_init_50 rfl ?_
  refine V_bipush (v := 8) dF_init_51 (by decide) ?_
  refine V_icmp_ge (tgt := 76) dF_init_53 rfl (fun _ => ?_) (fun h => absurd h (by decide))
  exact V_ret dF_init_76 rfl (by decide +kernel) ⟨rfl, rfl, rfl⟩
theorem nR_58 {l : Launch} {G : GT} : MM l G mR_init 1 1 0 [.ref 58, .ref 48] (KT 59) (mkS LI18 LR56) (PE none (KT 60) (mkS LI18 LR58)) := by
  refine MM.of (loc := [(0, .ref 58), (1, .ref 48)]) (by decide +kernel) rfl (Nat.le_of_ble_eq_true rfl) ?_
  refine V_aload_n dR_init_0 rfl ?_
  refine V_obj rfl dR_init_1 mlR_3 oi oc (by decide) (Nat.le_of_ble_eq_true rfl) ?_
  refine V_aload_n dR_init_4 rfl ?_
  refine V_iconst (v := 0) dR_init_5 (by decide) ?_
  refine V_newI (N := 0) (bs' := 0) dR_init_6 ac_int (Zr_mk (by rw [kl59]; decide +kernel)) (by decide) (by decide) (by decide) (by decide +kernel) (by decide) ?_
  rw [kl59, show KT 59 ++ [(20, 0)] = KT 60 by decide +kernel]
  refine V_putR dR_init_8 flR_9 (fpR_2 _) (by first | exact Or.inl ⟨_, rfl⟩ | exact Or.inr ⟨_, rfl⟩) (Or.inl rfl) (by decide +kernel) rfl ?_
  refine V_eqS (σ' := mkS LI18 LR57) rfl ?_
  refine V_aload_n dR_init_11 rfl ?_
  refine V_aload_n dR_init_12 rfl ?_
  refine V_putR dR_init_13 flR_15 fpR_0 (by first | exact Or.inl ⟨_, rfl⟩ | exact Or.inr ⟨_, rfl⟩) (Or.inr rfl) (by decide +kernel) rfl ?_
  refine V_eqS (σ' := mkS LI18 LR58) rfl ?_
  exact V_ret dR_init_16 rfl (by decide +kernel) ⟨rfl, rfl, rfl⟩
theorem nL_47 {l : Launch} {G : GT} : MM l G mL_init 2 12 725 [.ref 47] (KT 48) (mkS LI18 LR46) (PE none (KT 60) (mkS LI18 LR59)) := by
  refine MM.of (loc := [(0, .ref 47)]) (by decide +kernel) rfl (Nat.le_of_ble_eq_true rfl) ?_
  refine V_aload_n dL_init_0 rfl ?_
  refine V_obj rfl dL_init_1 mlL_3 oi oc (by decide) (Nat.le_of_ble_eq_true rfl) ?_
  refine V_aload_n dL_init_4 rfl ?_
  refine V_bipush (v := 100) dL_init_5 (by decide) ?_
  refine V_newI (N := 100) (bs' := 625) dL_init_7 ac_int (Zr_mk (by rw [kl48]; decide +kernel)) (by decide) (by decide) (by decide) (by decide +kernel) (by decide) ?_
  rw [kl48, show KT 48 ++ [(20, 100)] = KT 49 by decide +kernel]
  refine V_putR dL_init_9 flL_9 fpL_0 (by first | exact Or.inl ⟨_, rfl⟩ | exact Or.inr ⟨_, rfl⟩) (Or.inr rfl) (by decide +kernel) rfl ?_
  refine V_eqS (σ' := mkS LI18 LR47) rfl ?_
  refine V_aload_n dL_init_12 rfl ?_
  refine V_bipush (v := 6) dL_init_13 (by decide) ?_
  refine V_bipush (v := 100) dL_init_15 (by decide) ?_
  have hz : Zr (mkS LI18 LR47) 49 := Zr_mk (by decide +kernel)
  refine V_mna (ty := .int) (t0 := 0) (t := 24) (t1 := 20) (N := 6) (K := 100) (z := (100, .inl (fun _ => 0))) (bs' := 19) rfl dL_init_17 clL_15 ac_int (Or.inl ⟨rfl, rfl, rfl, rfl⟩) (by rw [kl49]; exact hz) (by decide) (by decide) (by decide) (by decide) (by decide) (by decide) (fun i hi => by rw [kl49, el_i]; congr 4; try (funext j; exact (hz (49 + 1 + i) (by omega) j).1)) (fun c => inner_i 100 c) (by decide +kernel) (by decide) ?_
  rw [kl49, show KT 49 ++ (24, 6) :: List.replicate 6 (20, 100) = KT 56 by decide +kernel]
  refine V_eqS (σ' := mkS LI18 LR53) mkS_m ?_
  refine V_putR dL_init_21 flL_17 fpL_3 (by first | exact Or.inl ⟨_, rfl⟩ | exact Or.inr ⟨_, rfl⟩) (Or.inr rfl) (by decide +kernel) rfl ?_
  refine V_eqS (σ' := mkS LI18 LR54) rfl ?_
  refine V_aload_n dL_init_24 rfl ?_
  refine V_bipush (v := 6) dL_init_25 (by decide) ?_
  refine V_newI (N := 6) (bs' := 13) dL_init_27 ac_int (Zr_mk (by rw [kl56]; decide +kernel)) (by decide) (by decide) (by decide) (by decide +kernel) (by decide) ?_
  rw [kl56, show KT 56 ++ [(20, 6)] = KT 57 by decide +kernel]
  refine V_putR dL_init_29 flL_20 fpL_4 (by first | exact Or.inl ⟨_, rfl⟩ | exact Or.inr ⟨_, rfl⟩) (Or.inr rfl) (by decide +kernel) rfl ?_
  refine V_eqS (σ' := mkS LI18 LR55) rfl ?_
  refine V_aload_n dL_init_32 rfl ?_
  refine V_bipush (v := 6) dL_init_33 (by decide) ?_
  refine V_newI (N := 6) (bs' := 7) dL_init_35 ac_int (Zr_mk (by rw [kl57]; decide +kernel)) (by decide) (by decide) (by decide) (by decide +kernel) (by decide) ?_
  rw [kl57, show KT 57 ++ [(20, 6)] = KT 58 by decide +kernel]
  refine V_putR dL_init_37 flL_23 fpL_5 (by first | exact Or.inl ⟨_, rfl⟩ | exact Or.inr ⟨_, rfl⟩) (Or.inr rfl) (by decide +kernel) rfl ?_
  refine V_eqS (σ' := mkS LI18 LR56) rfl ?_
  refine V_aload_n dL_init_40 rfl ?_
  refine V_new (bs' := 0) tyR rfl dL_init_41 clL_26 insR iniR rfl (by decide) uwR tyR_ok dvR (Zr_mk (by rw [kl58]; decide +kernel)) (by decide +kernel) (by decide) ?_
  rw [kl58, show KT 58 ++ [(3, 7)] = KT 59 by decide +kernel]
  refine V_dup dL_init_44 rfl ?_
  refine V_aload_n dL_init_45 rfl ?_
  refine V_getR (a := 48) dL_init_46 flL_9 (by decide +kernel) rfl (by decide +kernel) ?_
  refine V_callI (as := [.ref 48]) (rest := [.ref 58, .ref 47]) (bs' := 0) rfl dL_init_49 cmR_init inR_init mlL_28 rfl rfl (nR_58 (l := l) (G := G)) (by decide) (by decide +kernel) (by decide) (Nat.le_of_ble_eq_true rfl) ?_
  rintro _ _ _ ⟨rfl, rfl, rfl⟩ -
  refine V_non ?_
  refine V_putR dL_init_52 flL_31 fpL_6 (by first | exact Or.inl ⟨_, rfl⟩ | exact Or.inr ⟨_, rfl⟩) (Or.inr rfl) (by decide +kernel) rfl ?_
  refine V_eqS (σ' := mkS LI18 LR59) rfl ?_
  exact V_ret dL_init_55 rfl (by decide +kernel) ⟨rfl, rfl, rfl⟩
theorem nP_60 {l : Launch} {G : GT} : MM l G mP_init 1 1 6 [.ref 60, .ref 1, .ref 47] (KT 61) (mkS LI18 LR60) (PE none (KT 62) (mkS LI18 LR63)) := by
  refine MM.of (loc := [(0, .ref 60), (1, .ref 1), (2, .ref 47)]) (by decide +kernel) rfl (Nat.le_of_ble_eq_true rfl) ?_
  refine V_aload_n dP_init_0 rfl ?_
  refine V_obj rfl dP_init_1 mlP_3 oi oc (by decide) (Nat.le_of_ble_eq_true rfl) ?_
  refine V_aload_n dP_init_4 rfl ?_
  refine V_bipush (v := 6) dP_init_5 (by decide) ?_
  refine V_newI (N := 6) (bs' := 0) dP_init_7 ac_int (Zr_mk (by rw [kl61]; decide +kernel)) (by decide) (by decide) (by decide) (by decide +kernel) (by decide) ?_
  rw [kl61, show KT 61 ++ [(20, 6)] = KT 62 by decide +kernel]
  refine V_putR dP_init_9 flP_9 fpP_2 (by first | exact Or.inl ⟨_, rfl⟩ | exact Or.inr ⟨_, rfl⟩) (Or.inr rfl) (by decide +kernel) rfl ?_
  refine V_eqS (σ' := mkS LI18 LR61) rfl ?_
  refine V_aload_n dP_init_12 rfl ?_
  refine V_aload_n dP_init_13 rfl ?_
  refine V_putR dP_init_14 flP_15 fpP_0 (by first | exact Or.inl ⟨_, rfl⟩ | exact Or.inr ⟨_, rfl⟩) (Or.inr rfl) (by decide +kernel) rfl ?_
  refine V_eqS (σ' := mkS LI18 LR62) rfl ?_
  refine V_aload_n dP_init_17 rfl ?_
  refine V_aload_n dP_init_18 rfl ?_
  refine V_putR dP_init_19 flP_19 fpP_1 (by first | exact Or.inl ⟨_, rfl⟩ | exact Or.inr ⟨_, rfl⟩) (Or.inr rfl) (by decide +kernel) rfl ?_
  refine V_eqS (σ' := mkS LI18 LR63) rfl ?_
  exact V_ret dP_init_22 rfl (by decide +kernel) ⟨rfl, rfl, rfl⟩
theorem nS_62 {l : Launch} {G : GT} : MM l G mS_init 1 1 48 [.ref 62, .ref 1, .ref 60] (KT 63) (mkS LI18 LR64) (PE none (KT 64) (mkS LI18 LR67)) := by
  refine MM.of (loc := [(0, .ref 62), (1, .ref 1), (2, .ref 60)]) (by decide +kernel) rfl (Nat.le_of_ble_eq_true rfl) ?_
  refine V_aload_n dS_init_0 rfl ?_
  refine V_obj rfl dS_init_1 mlS_3 oi oc (by decide) (Nat.le_of_ble_eq_true rfl) ?_
  refine V_aload_n dS_init_4 rfl ?_
  refine V_bipush (v := 48) dS_init_5 (by decide) ?_
  refine V_newI (N := 48) (bs' := 0) dS_init_7 ac_int (Zr_mk (by rw [kl63]; decide +kernel)) (by decide) (by decide) (by decide) (by decide +kernel) (by decide) ?_
  rw [kl63, show KT 63 ++ [(20, 48)] = KT 64 by decide +kernel]
  refine V_putR dS_init_9 flS_9 fpS_2 (by first | exact Or.inl ⟨_, rfl⟩ | exact Or.inr ⟨_, rfl⟩) (Or.inr rfl) (by decide +kernel) rfl ?_
  refine V_eqS (σ' := mkS LI18 LR65) rfl ?_
  refine V_aload_n dS_init_12 rfl ?_
  refine V_aload_n dS_init_13 rfl ?_
  refine V_putR dS_init_14 flS_15 fpS_0 (by first | exact Or.inl ⟨_, rfl⟩ | exact Or.inr ⟨_, rfl⟩) (Or.inr rfl) (by decide +kernel) rfl ?_
  refine V_eqS (σ' := mkS LI18 LR66) rfl ?_
  refine V_aload_n dS_init_17 rfl ?_
  refine V_aload_n dS_init_18 rfl ?_
  refine V_putR dS_init_19 flS_19 fpS_1 (by first | exact Or.inl ⟨_, rfl⟩ | exact Or.inr ⟨_, rfl⟩) (Or.inr rfl) (by decide +kernel) rfl ?_
  refine V_eqS (σ' := mkS LI18 LR67) rfl ?_
  exact V_ret dS_init_22 rfl (by decide +kernel) ⟨rfl, rfl, rfl⟩
theorem nA_64 {l : Launch} {G : GT} : MM l G mA_init 1 1 20 [.ref 64] (KT 65) (mkS LI18 LR68) (PE none (KT 66) (mkS LI18 LR69)) := by
  refine MM.of (loc := [(0, .ref 64)]) (by decide +kernel) rfl (Nat.le_of_ble_eq_true rfl) ?_
  refine V_aload_n dA_init_0 rfl ?_
  refine V_obj rfl dA_init_1 mlA_3 oi oc (by decide) (Nat.le_of_ble_eq_true rfl) ?_
  refine V_aload_n dA_init_4 rfl ?_
  refine V_bipush (v := 20) dA_init_5 (by decide) ?_
  refine V_newI (N := 20) (bs' := 0) dA_init_7 ac_int (Zr_mk (by rw [kl65]; decide +kernel)) (by decide) (by decide) (by decide) (by decide +kernel) (by decide) ?_
  rw [kl65, show KT 65 ++ [(20, 20)] = KT 66 by decide +kernel]
  refine V_putR dA_init_9 flA_9 fpA_1 (by first | exact Or.inl ⟨_, rfl⟩ | exact Or.inr ⟨_, rfl⟩) (Or.inr rfl) (by decide +kernel) rfl ?_
  refine V_eqS (σ' := mkS LI18 LR69) rfl ?_
  exact V_ret dA_init_12 rfl (by decide +kernel) ⟨rfl, rfl, rfl⟩
theorem nT_66 {l : Launch} {G : GT} : MM l G mT_init 1 9 378 [.ref 66] (KT 67) (mkS LI18 LR70) (PE none (KT 76) (mkS LI24 LR79)) := by
  refine MM.of (loc := [(0, .ref 66)]) (by decide +kernel) rfl (Nat.le_of_ble_eq_true rfl) ?_
  refine V_aload_n dT_init_0 rfl ?_
  refine V_obj rfl dT_init_1 mlT_3 oi oc (by decide) (Nat.le_of_ble_eq_true rfl) ?_
  refine V_aload_n dT_init_4 rfl ?_
  refine V_bipush (v := 6) dT_init_5 (by decide) ?_
  refine V_newI (N := 6) (bs' := 372) dT_init_7 ac_int (Zr_mk (by rw [kl67]; decide +kernel)) (by decide) (by decide) (by decide) (by decide +kernel) (by decide) ?_
  rw [kl67, show KT 67 ++ [(20, 6)] = KT 68 by decide +kernel]
  refine V_putR dT_init_9 flT_9 fpT_0 (by first | exact Or.inl ⟨_, rfl⟩ | exact Or.inr ⟨_, rfl⟩) (Or.inr rfl) (by decide +kernel) rfl ?_
  refine V_eqS (σ' := mkS LI18 LR71) rfl ?_
  refine V_aload_n dT_init_12 rfl ?_
  refine V_bipush (v := 6) dT_init_13 (by decide) ?_
  refine V_newI (N := 6) (bs' := 366) dT_init_15 ac_int (Zr_mk (by rw [kl68]; decide +kernel)) (by decide) (by decide) (by decide) (by decide +kernel) (by decide) ?_
  rw [kl68, show KT 68 ++ [(20, 6)] = KT 69 by decide +kernel]
  refine V_putR dT_init_17 flT_15 fpT_1 (by first | exact Or.inl ⟨_, rfl⟩ | exact Or.inr ⟨_, rfl⟩) (Or.inr rfl) (by decide +kernel) rfl ?_
  refine V_eqS (σ' := mkS LI18 LR72) rfl ?_
  refine V_aload_n dT_init_20 rfl ?_
  refine V_bipush (v := 6) dT_init_21 (by decide) ?_
  refine V_bipush (v := 60) dT_init_23 (by decide) ?_
  have hz : Zr (mkS LI18 LR72) 69 := Zr_mk (by decide +kernel)
  refine V_mna (ty := .long) (t0 := 2) (t := 25) (t1 := 22) (N := 6) (K := 60) (z := (60, .inr (.inl (fun _ => 0)))) (bs' := 0) rfl dT_init_25 clT_18 ac_long (Or.inr ⟨rfl, rfl, rfl, rfl⟩) (by rw [kl69]; exact hz) (by decide) (by decide) (by decide) (by decide) (by decide) (by decide) (fun i hi => by rw [kl69, el_l]; congr 5; try (funext j; exact (hz (69 + 1 + i) (by omega) j).2.1)) (fun c => inner_l 60 c) (by decide +kernel) (by decide) ?_
  rw [kl69, show KT 69 ++ (25, 6) :: List.replicate 6 (22, 60) = KT 76 by decide +kernel]
  refine V_eqS (σ' := mkS LI18 LR78) mkS_m ?_
  refine V_putR dT_init_29 flT_20 fpT_2 (by first | exact Or.inl ⟨_, rfl⟩ | exact Or.inr ⟨_, rfl⟩) (Or.inr rfl) (by decide +kernel) rfl ?_
  refine V_eqS (σ' := mkS LI18 LR79) rfl ?_
  refine V_iconst (v := 0) dT_init_32 (by decide) ?_
  refine V_istore_n (loc' := [(1, .int 0), (0, .ref 66)]) dT_init_33 (by decide) rfl ?_
  refine V_iload_n dT_init_34 rfl ?_
  refine V_bipush (v := 6) dT_init_35 (by decide) ?_
  refine V_icmp_ge (tgt := 53) dT_init_37 rfl (fun h => absurd h (by decide)) (fun _ => ?_)
  refine V_aload_n dT_init_40 rfl ?_
  refine V_getR (a := 67) dT_init_41 flT_9 (by decide +kernel) rfl (by decide +kernel) ?_
  refine V_iload_n dT_init_44 rfl ?_
  refine V_iconst (v := -1) dT_init_45 (by decide) ?_
  refine V_iastN (n := 6) (j := 0) dT_init_46 (by decide +kernel) rfl (by decide) (by decide) ?_
  refine V_eqS (σ' := mkS LI19 LR79) rfl ?_
  refine V_iinc (v := 1) (loc' := [(1, .int 1), (0, .ref 66)]) dT_init_47 rfl (by decide) (by decide) rfl ?_
  refine V_goto (tgt := 34) dT_init_50 rfl ?_
  refine V_iload_n dT_init_34 rfl ?_
  refine V_bipush (v := 6) dT_init_35 (by decide) ?_
  refine V_icmp_ge (tgt := 53) dT_init_37 rfl (fun h => absurd h (by decide)) (fun _ => ?_)
  refine V_aload_n dT_init_40 rfl ?_
  refine V_getR (a := 67) dT_init_41 flT_9 (by decide +kernel) rfl (by decide +kernel) ?_
  refine V_iload_n dT_init_44 rfl ?_
  refine V_iconst (v := -1) dT_init_45 (by decide) ?_
  refine V_iastN (n := 6) (j := 1) dT_init_46 (by decide +kernel) rfl (by decide) (by decide) ?_
  refine V_eqS (σ' := mkS LI20 LR79) rfl ?_
  refine V_iinc (v := 2) (loc' := [(1, .int 2), (0, .ref 66)]) dT_init_47 rfl (by decide) (by decide) rfl ?_
  refine V_goto (tgt := 34) dT_init_50 rfl ?_
  refine V_iload_n dT_init_34 rfl ?_
  refine V_bipush (v := 6) dT_init_35 (by decide) ?_
  refine V_icmp_ge (tgt := 53) dT_init_37 rfl (fun h => absurd h (by decide)) (fun _ => ?_)
  refine V_aload_n dT_init_40 rfl ?_
  refine V_getR (a := 67) dT_init_41 flT_9 (by decide +kernel) rfl (by decide +kernel) ?_
  refine V_iload_n dT_init_44 rfl ?_
  refine V_iconst (v := -1) dT_init_45 (by decide) ?_
  refine V_iastN (n := 6) (j := 2) dT_init_46 (by decide +kernel) rfl (by decide) (by decide) ?_
  refine V_eqS (σ' := mkS LI21 LR79) rfl ?_
  refine V_iinc (v := 3) (loc' := [(1, .int 3), (0, .ref 66)]) dT_init_47 rfl (by decide) (by decide) rfl ?_
  refine V_goto (tgt := 34) dT_init_50 rfl ?_
  refine V_iload_n dT_init_34 rfl ?_
  refine V_bipush (v := 6) dT_init_35 (by decide) ?_
  refine V_icmp_ge (tgt := 53) dT_init_37 rfl (fun h => absurd h (by decide)) (fun _ => ?_)
  refine V_aload_n dT_init_40 rfl ?_
  refine V_getR (a := 67) dT_init_41 flT_9 (by decide +kernel) rfl (by decide +kernel) ?_
  refine V_iload_n dT_init_44 rfl ?_
  refine V_iconst (v := -1) dT_init_45 (by decide) ?_
  refine V_iastN (n := 6) (j := 3) dT_init_46 (by decide +kernel) rfl (by decide) (by decide) ?_
  refine V_eqS (σ' := mkS LI22 LR79) rfl ?_
  refine V_iinc (v := 4) (loc' := [(1, .int 4), (0, .ref 66)]) dT_init_47 rfl (by decide) (by decide) rfl ?_
  refine V_goto (tgt := 34) dT_init_50 rfl ?_
  refine V_iload_n dT_init_34 rfl ?_
  refine V_bipush (v := 6) dT_init_35 (by decide) ?_
  refine V_icmp_ge (tgt := 53) dT_init_37 rfl (fun h => absurd h (by decide)) (fun _ => ?_)
  refine V_aload_n dT_init_40 rfl ?_
  refine V_getR (a := 67) dT_init_41 flT_9 (by decide +kernel) rfl (by decide +kernel) ?_
  refine V_iload_n dT_init_44 rfl ?_
  refine V_iconst (v := -1) dT_init_45 (by decide) ?_
  refine V_iastN (n := 6) (j := 4) dT_init_46 (by decide +kernel) rfl (by decide) (by decide) ?_
  refine V_eqS (σ' := mkS LI23 LR79) rfl ?_
  refine V_iinc (v := 5) (loc' := [(1, .int 5), (0, .ref 66)]) dT_init_47 rfl (by decide) (by decide) rfl ?_
  refine V_goto (tgt := 34) dT_init_50 rfl ?_
  refine V_iload_n dT_init_34 rfl ?_
  refine V_bipush (v := 6) dT_init_35 (by decide) ?_
  refine V_icmp_ge (tgt := 53) dT_init_37 rfl (fun h => absurd h (by decide)) (fun _ => ?_)
  refine V_aload_n dT_init_40 rfl ?_
  refine V_getR (a := 67) dT_init_41 flT_9 (by decide +kernel) rfl (by decide +kernel) ?_
  refine V_iload_n dT_init_44 rfl ?_
  refine V_iconst (v := -1) dT_init_45 (by decide) ?_
  refine V_iastN (n := 6) (j := 5) dT_init_46 (by decide +kernel) rfl (by decide) (by decide) ?_
  refine V_eqS (σ' := mkS LI24 LR79) rfl ?_
  refine V_iinc (v := 6) (loc' := [(1, .int 6), (0, .ref 66)]) dT_init_47 rfl (by decide) (by decide) rfl ?_
  refine V_goto (tgt := 34) dT_init_50 rfl ?_
  refine V_iload_n dT_init_34 rfl ?_
  refine V_bipush (v := 6) dT_init_35 (by decide) ?_
  refine V_icmp_ge (tgt := 53) dT_init_37 rfl (fun _ => ?_) (fun h => absurd h (by decide))
  exact V_ret dT_init_53 rfl (by decide +kernel) ⟨rfl, rfl, rfl⟩
theorem nG_0 {l : Launch} {G : GT} : MM l G mG_init 3 75 1524 [.ref 0] (KT 1) (mkS LI0 LR0) (PE none (KT 76) (mkS LI24 LR80)) := by
  refine MM.of (loc := [(0, .ref 0)]) (by decide +kernel) rfl (Nat.le_of_ble_eq_true rfl) ?_
  refine V_aload_n dG_init_0 rfl ?_
  refine V_obj rfl dG_init_1 mlG_3 oi oc (by decide) (Nat.le_of_ble_eq_true rfl) ?_
  refine V_aload_n dG_init_4 rfl ?_
  refine V_new (bs' := 1515) tyF rfl dG_init_5 clG_9 insF iniF rfl (by decide) uwF tyF_ok dvF (Zr_mk (by rw [kl1]; decide +kernel)) (by decide +kernel) (by decide) ?_
  rw [kl1, show KT 1 ++ [(2, 9)] = KT 2 by decide +kernel]
  refine V_dup dG_init_8 rfl ?_
  refine V_callI (as := []) (rest := [.ref 1, .ref 0]) (bs' := 1361) rfl dG_init_9 cmF_init inF_init mlG_11 rfl rfl (nF_1 (l := l) (G := G)) (by decide) (by decide +kernel) (by decide) (Nat.le_of_ble_eq_true rfl) ?_
  rintro _ _ _ ⟨rfl, rfl, rfl⟩ -
  refine V_non ?_
  refine V_putR dG_init_12 flG_12 fpG_0 (by first | exact Or.inl ⟨_, rfl⟩ | exact Or.inr ⟨_, rfl⟩) (Or.inr rfl) (by decide +kernel) rfl ?_
  refine V_eqS (σ' := mkS LI9 LR23) rfl ?_
  refine V_aload_n dG_init_15 rfl ?_
  refine V_new (bs' := 1352) tyF rfl dG_init_16 clG_9 insF iniF rfl (by decide) uwF tyF_ok dvF (Zr_mk (by rw [kl24]; decide +kernel)) (by decide +kernel) (by decide) ?_
  rw [kl24, show KT 24 ++ [(2, 9)] = KT 25 by decide +kernel]
  refine V_dup dG_init_19 rfl ?_
  refine V_callI (as := []) (rest := [.ref 24, .ref 0]) (bs' := 1198) rfl dG_init_20 cmF_init inF_init mlG_11 rfl rfl (nF_24 (l := l) (G := G)) (by decide) (by decide +kernel) (by decide) (Nat.le_of_ble_eq_true rfl) ?_
  rintro _ _ _ ⟨rfl, rfl, rfl⟩ -
  refine V_non ?_
  refine V_putR dG_init_23 flG_18 fpG_1 (by first | exact Or.inl ⟨_, rfl⟩ | exact Or.inr ⟨_, rfl⟩) (Or.inr rfl) (by decide +kernel) rfl ?_
  refine V_eqS (σ' := mkS LI18 LR46) rfl ?_
  refine V_aload_n dG_init_26 rfl ?_
  refine V_new (bs' := 1191) tyL rfl dG_init_27 clG_21 insL iniL rfl (by decide) uwL tyL_ok dvL (Zr_mk (by rw [kl47]; decide +kernel)) (by decide +kernel) (by decide) ?_
  rw [kl47, show KT 47 ++ [(4, 7)] = KT 48 by decide +kernel]
  refine V_dup dG_init_30 rfl ?_
  refine V_callIN (host := "GuessFair") (as := []) (rest := [.ref 47, .ref 0]) (bs' := 466) rfl dG_init_31 cmL_init inL_init (by decide) rfl rfl (nL_47 (l := l) (G := G)) (by decide) (by decide +kernel) (by decide) (Nat.le_of_ble_eq_true rfl) ?_
  rintro _ _ _ ⟨rfl, rfl, rfl⟩ -
  refine V_non ?_
  refine V_putR dG_init_34 flG_24 fpG_3 (by first | exact Or.inl ⟨_, rfl⟩ | exact Or.inr ⟨_, rfl⟩) (Or.inr rfl) (by decide +kernel) rfl ?_
  refine V_eqS (σ' := mkS LI18 LR60) rfl ?_
  refine V_aload_n dG_init_37 rfl ?_
  refine V_new (bs' := 463) tyP rfl dG_init_38 clG_28 insP iniP rfl (by decide) uwP tyP_ok dvP (Zr_mk (by rw [kl60]; decide +kernel)) (by decide +kernel) (by decide) ?_
  rw [kl60, show KT 60 ++ [(5, 3)] = KT 61 by decide +kernel]
  refine V_dup dG_init_41 rfl ?_
  refine V_aload_n dG_init_42 rfl ?_
  refine V_getR (a := 1) dG_init_43 flG_12 (by decide +kernel) rfl (by decide +kernel) ?_
  refine V_aload_n dG_init_46 rfl ?_
  refine V_getR (a := 47) dG_init_47 flG_24 (by decide +kernel) rfl (by decide +kernel) ?_
  refine V_callI (as := [.ref 1, .ref 47]) (rest := [.ref 60, .ref 0]) (bs' := 457) rfl dG_init_50 cmP_init inP_init mlG_30 rfl rfl (nP_60 (l := l) (G := G)) (by decide) (by decide +kernel) (by decide) (Nat.le_of_ble_eq_true rfl) ?_
  rintro _ _ _ ⟨rfl, rfl, rfl⟩ -
  refine V_non ?_
  refine V_putR dG_init_53 flG_33 fpG_4 (by first | exact Or.inl ⟨_, rfl⟩ | exact Or.inr ⟨_, rfl⟩) (Or.inr rfl) (by decide +kernel) rfl ?_
  refine V_eqS (σ' := mkS LI18 LR64) rfl ?_
  refine V_aload_n dG_init_56 rfl ?_
  refine V_new (bs' := 454) tyS rfl dG_init_57 clG_37 insS iniS rfl (by decide) uwS tyS_ok dvS (Zr_mk (by rw [kl62]; decide +kernel)) (by decide +kernel) (by decide) ?_
  rw [kl62, show KT 62 ++ [(7, 3)] = KT 63 by decide +kernel]
  refine V_dup dG_init_60 rfl ?_
  refine V_aload_n dG_init_61 rfl ?_
  refine V_getR (a := 1) dG_init_62 flG_12 (by decide +kernel) rfl (by decide +kernel) ?_
  refine V_aload_n dG_init_65 rfl ?_
  refine V_getR (a := 60) dG_init_66 flG_33 (by decide +kernel) rfl (by decide +kernel) ?_
  refine V_callI (as := [.ref 1, .ref 60]) (rest := [.ref 62, .ref 0]) (bs' := 406) rfl dG_init_69 cmS_init inS_init mlG_39 rfl rfl (nS_62 (l := l) (G := G)) (by decide) (by decide +kernel) (by decide) (Nat.le_of_ble_eq_true rfl) ?_
  rintro _ _ _ ⟨rfl, rfl, rfl⟩ -
  refine V_non ?_
  refine V_putR dG_init_72 flG_42 fpG_5 (by first | exact Or.inl ⟨_, rfl⟩ | exact Or.inr ⟨_, rfl⟩) (Or.inr rfl) (by decide +kernel) rfl ?_
  refine V_eqS (σ' := mkS LI18 LR68) rfl ?_
  refine V_aload_n dG_init_75 rfl ?_
  refine V_new (bs' := 401) tyA rfl dG_init_76 clG_46 insA iniA rfl (by decide) uwA tyA_ok dvA (Zr_mk (by rw [kl64]; decide +kernel)) (by decide +kernel) (by decide) ?_
  rw [kl64, show KT 64 ++ [(0, 5)] = KT 65 by decide +kernel]
  refine V_dup dG_init_79 rfl ?_
  refine V_callIN (host := "GuessFair") (as := []) (rest := [.ref 64, .ref 0]) (bs' := 381) rfl dG_init_80 cmA_init inA_init (by decide) rfl rfl (nA_64 (l := l) (G := G)) (by decide) (by decide +kernel) (by decide) (Nat.le_of_ble_eq_true rfl) ?_
  rintro _ _ _ ⟨rfl, rfl, rfl⟩ -
  refine V_non ?_
  refine V_putR dG_init_83 flG_49 fpG_6 (by first | exact Or.inl ⟨_, rfl⟩ | exact Or.inr ⟨_, rfl⟩) (Or.inr rfl) (by decide +kernel) rfl ?_
  refine V_eqS (σ' := mkS LI18 LR70) rfl ?_
  refine V_aload_n dG_init_86 rfl ?_
  refine V_new (bs' := 378) tyT rfl dG_init_87 clG_53 insT iniT rfl (by decide) uwT tyT_ok dvT (Zr_mk (by rw [kl66]; decide +kernel)) (by decide +kernel) (by decide) ?_
  rw [kl66, show KT 66 ++ [(8, 3)] = KT 67 by decide +kernel]
  refine V_dup dG_init_90 rfl ?_
  refine V_callI (as := []) (rest := [.ref 66, .ref 0]) (bs' := 0) rfl dG_init_91 cmT_init inT_init mlG_55 rfl rfl (nT_66 (l := l) (G := G)) (by decide) (by decide +kernel) (by decide) (Nat.le_of_ble_eq_true rfl) ?_
  rintro _ _ _ ⟨rfl, rfl, rfl⟩ -
  refine V_non ?_
  refine V_putR dG_init_94 flG_56 fpG_7 (by first | exact Or.inl ⟨_, rfl⟩ | exact Or.inr ⟨_, rfl⟩) (Or.inr rfl) (by decide +kernel) rfl ?_
  refine V_eqS (σ' := mkS LI24 LR80) rfl ?_
  exact V_ret dG_init_97 rfl (by decide +kernel) ⟨rfl, rfl, rfl⟩
theorem nM_76 {l : Launch} {G : GT} : MM l G mM_init 1 40 1894 [.ref 76] (KT 77) (mkS LI24 LR80) (PE none (KT 117) (mkS LI64 LR120)) := by
  refine MM.of (loc := [(0, .ref 76)]) (by decide +kernel) rfl (Nat.le_of_ble_eq_true rfl) ?_
  refine V_aload_n dM_init_0 rfl ?_
  refine V_obj rfl dM_init_1 mlM_1 oi oc (by decide) (Nat.le_of_ble_eq_true rfl) ?_
  refine V_aload_n dM_init_4 rfl ?_
  refine V_iconst (v := 0) dM_init_5 (by decide) ?_
  refine V_putI dM_init_6 flM_7 (fpM_0 _) (Or.inl rfl) (by decide +kernel) rfl ?_
  refine V_eqS (σ' := mkS LI25 LR80) rfl ?_
  refine V_aload_n dM_init_9 rfl ?_
  refine V_iconst (v := 0) dM_init_10 (by decide) ?_
  refine V_putI dM_init_11 flM_13 (fpM_1 _) (Or.inl rfl) (by decide +kernel) rfl ?_
  refine V_eqS (σ' := mkS LI26 LR80) rfl ?_
  refine V_aload_n dM_init_14 rfl ?_
  refine V_iconst (v := 0) dM_init_15 (by decide) ?_
  refine V_putI dM_init_16 flM_16 (fpM_2 _) (Or.inl rfl) (by decide +kernel) rfl ?_
  refine V_eqS (σ' := mkS LI27 LR80) rfl ?_
  refine V_aload_n dM_init_19 rfl ?_
  refine V_iconst (v := 0) dM_init_20 (by decide) ?_
  refine V_putI dM_init_21 flM_19 (fpM_3 _) (Or.inl rfl) (by decide +kernel) rfl ?_
  refine V_eqS (σ' := mkS LI28 LR80) rfl ?_
  refine V_aload_n dM_init_24 rfl ?_
  refine V_bipush (v := 6) dM_init_25 (by decide) ?_
  refine V_newI (N := 6) (bs' := 1888) dM_init_27 ac_int (Zr_mk (by rw [kl77]; decide +kernel)) (by decide) (by decide) (by decide) (by decide +kernel) (by decide) ?_
  rw [kl77, show KT 77 ++ [(20, 6)] = KT 78 by decide +kernel]
  refine V_putR dM_init_29 flM_22 fpM_4 (by first | exact Or.inl ⟨_, rfl⟩ | exact Or.inr ⟨_, rfl⟩) (Or.inr rfl) (by decide +kernel) rfl ?_
  refine V_eqS (σ' := mkS LI28 LR81) rfl ?_
  refine V_aload_n dM_init_32 rfl ?_
  refine V_bipush (v := 8) dM_init_33 (by decide) ?_
  refine V_newI (N := 8) (bs' := 1880) dM_init_35 ac_int (Zr_mk (by rw [kl78]; decide +kernel)) (by decide) (by decide) (by decide) (by decide +kernel) (by decide) ?_
  rw [kl78, show KT 78 ++ [(20, 8)] = KT 79 by decide +kernel]
  refine V_putR dM_init_37 flM_26 fpM_5 (by first | exact Or.inl ⟨_, rfl⟩ | exact Or.inr ⟨_, rfl⟩) (Or.inr rfl) (by decide +kernel) rfl ?_
  refine V_eqS (σ' := mkS LI28 LR82) rfl ?_
  refine V_aload_n dM_init_40 rfl ?_
  refine V_bipush (v := 8) dM_init_41 (by decide) ?_
  refine V_newI (N := 8) (bs' := 1872) dM_init_43 ac_int (Zr_mk (by rw [kl79]; decide +kernel)) (by decide) (by decide) (by decide) (by decide +kernel) (by decide) ?_
  rw [kl79, show KT 79 ++ [(20, 8)] = KT 80 by decide +kernel]
  refine V_putR dM_init_45 flM_29 fpM_6 (by first | exact Or.inl ⟨_, rfl⟩ | exact Or.inr ⟨_, rfl⟩) (Or.inr rfl) (by decide +kernel) rfl ?_
  refine V_eqS (σ' := mkS LI28 LR83) rfl ?_
  refine V_aload_n dM_init_48 rfl ?_
  refine V_bipush (v := 8) dM_init_49 (by decide) ?_
  refine V_newI (N := 8) (bs' := 1864) dM_init_51 ac_int (Zr_mk (by rw [kl80]; decide +kernel)) (by decide) (by decide) (by decide) (by decide +kernel) (by decide) ?_
  rw [kl80, show KT 80 ++ [(20, 8)] = KT 81 by decide +kernel]
  refine V_putR dM_init_53 flM_32 fpM_7 (by first | exact Or.inl ⟨_, rfl⟩ | exact Or.inr ⟨_, rfl⟩) (Or.inr rfl) (by decide +kernel) rfl ?_
  refine V_eqS (σ' := mkS LI28 LR84) rfl ?_
  refine V_aload_n dM_init_56 rfl ?_
  refine V_bipush (v := 8) dM_init_57 (by decide) ?_
  refine V_newI (N := 8) (bs' := 1856) dM_init_59 ac_int (Zr_mk (by rw [kl81]; decide +kernel)) (by decide) (by decide) (by decide) (by decide +kernel) (by decide) ?_
  rw [kl81, show KT 81 ++ [(20, 8)] = KT 82 by decide +kernel]
  refine V_putR dM_init_61 flM_35 fpM_8 (by first | exact Or.inl ⟨_, rfl⟩ | exact Or.inr ⟨_, rfl⟩) (Or.inr rfl) (by decide +kernel) rfl ?_
  refine V_eqS (σ' := mkS LI28 LR85) rfl ?_
  refine V_aload_n dM_init_64 rfl ?_
  refine V_bipush (v := 8) dM_init_65 (by decide) ?_
  refine V_newI (N := 8) (bs' := 1848) dM_init_67 ac_int (Zr_mk (by rw [kl82]; decide +kernel)) (by decide) (by decide) (by decide) (by decide +kernel) (by decide) ?_
  rw [kl82, show KT 82 ++ [(20, 8)] = KT 83 by decide +kernel]
  refine V_putR dM_init_69 flM_38 fpM_9 (by first | exact Or.inl ⟨_, rfl⟩ | exact Or.inr ⟨_, rfl⟩) (Or.inr rfl) (by decide +kernel) rfl ?_
  refine V_eqS (σ' := mkS LI28 LR86) rfl ?_
  refine V_aload_n dM_init_72 rfl ?_
  refine V_bipush (v := 32) dM_init_73 (by decide) ?_
  refine V_newI (N := 32) (bs' := 1816) dM_init_75 ac_int (Zr_mk (by rw [kl83]; decide +kernel)) (by decide) (by decide) (by decide) (by decide +kernel) (by decide) ?_
  rw [kl83, show KT 83 ++ [(20, 32)] = KT 84 by decide +kernel]
  refine V_putR dM_init_77 flM_41 fpM_10 (by first | exact Or.inl ⟨_, rfl⟩ | exact Or.inr ⟨_, rfl⟩) (Or.inr rfl) (by decide +kernel) rfl ?_
  refine V_eqS (σ' := mkS LI28 LR87) rfl ?_
  refine V_aload_n dM_init_80 rfl ?_
  refine V_iconst (v := 0) dM_init_81 (by decide) ?_
  refine V_putI dM_init_82 flM_44 (fpM_11 _) (Or.inl rfl) (by decide +kernel) rfl ?_
  refine V_eqS (σ' := mkS LI29 LR87) rfl ?_
  refine V_aload_n dM_init_85 rfl ?_
  refine V_iconst (v := -1) dM_init_86 (by decide) ?_
  refine V_putI dM_init_87 flM_47 (fpM_12 _) (Or.inl rfl) (by decide +kernel) rfl ?_
  refine V_eqS (σ' := mkS LI30 LR87) rfl ?_
  refine V_aload_n dM_init_90 rfl ?_
  refine V_iconst (v := 0) dM_init_91 (by decide) ?_
  refine V_putI dM_init_92 flM_50 (fpM_13 _) (Or.inl rfl) (by decide +kernel) rfl ?_
  refine V_eqS (σ' := mkS LI31 LR87) rfl ?_
  refine V_aload_n dM_init_95 rfl ?_
  refine V_iconst (v := 0) dM_init_96 (by decide) ?_
  refine V_putI dM_init_97 flM_53 (fpM_14 _) (Or.inl rfl) (by decide +kernel) rfl ?_
  refine V_eqS (σ' := mkS LI32 LR87) rfl ?_
  refine V_aload_n dM_init_100 rfl ?_
  refine V_iconst (v := 0) dM_init_101 (by decide) ?_
  refine V_putI dM_init_102 flM_56 (fpM_15 _) (Or.inl rfl) (by decide +kernel) rfl ?_
  refine V_eqS (σ' := mkS LI33 LR87) rfl ?_
  refine V_aload_n dM_init_105 rfl ?_
  refine V_bipush (v := 100) dM_init_106 (by decide) ?_
  refine V_newI (N := 100) (bs' := 1716) dM_init_108 ac_int (Zr_mk (by rw [kl84]; decide +kernel)) (by decide) (by decide) (by decide) (by decide +kernel) (by decide) ?_
  rw [kl84, show KT 84 ++ [(20, 100)] = KT 85 by decide +kernel]
  refine V_putR dM_init_110 flM_59 fpM_16 (by first | exact Or.inl ⟨_, rfl⟩ | exact Or.inr ⟨_, rfl⟩) (Or.inr rfl) (by decide +kernel) rfl ?_
  refine V_eqS (σ' := mkS LI33 LR88) rfl ?_
  refine V_aload_n dM_init_113 rfl ?_
  refine V_bipush (v := 6) dM_init_114 (by decide) ?_
  refine V_newI (N := 6) (bs' := 1710) dM_init_116 ac_int (Zr_mk (by rw [kl85]; decide +kernel)) (by decide) (by decide) (by decide) (by decide +kernel) (by decide) ?_
  rw [kl85, show KT 85 ++ [(20, 6)] = KT 86 by decide +kernel]
  refine V_putR dM_init_118 flM_62 fpM_17 (by first | exact Or.inl ⟨_, rfl⟩ | exact Or.inr ⟨_, rfl⟩) (Or.inr rfl) (by decide +kernel) rfl ?_
  refine V_eqS (σ' := mkS LI33 LR89) rfl ?_
  refine V_aload_n dM_init_121 rfl ?_
  refine V_bipush (v := 60) dM_init_122 (by decide) ?_
  refine V_newI (N := 60) (bs' := 1650) dM_init_124 ac_int (Zr_mk (by rw [kl86]; decide +kernel)) (by decide) (by decide) (by decide) (by decide +kernel) (by decide) ?_
  rw [kl86, show KT 86 ++ [(20, 60)] = KT 87 by decide +kernel]
  refine V_putR dM_init_126 flM_65 fpM_18 (by first | exact Or.inl ⟨_, rfl⟩ | exact Or.inr ⟨_, rfl⟩) (Or.inr rfl) (by decide +kernel) rfl ?_
  refine V_eqS (σ' := mkS LI33 LR90) rfl ?_
  refine V_aload_n dM_init_129 rfl ?_
  refine V_bipush (v := 60) dM_init_130 (by decide) ?_
  refine V_newI (N := 60) (bs' := 1590) dM_init_132 ac_int (Zr_mk (by rw [kl87]; decide +kernel)) (by decide) (by decide) (by decide) (by decide +kernel) (by decide) ?_
  rw [kl87, show KT 87 ++ [(20, 60)] = KT 88 by decide +kernel]
  refine V_putR dM_init_134 flM_68 fpM_19 (by first | exact Or.inl ⟨_, rfl⟩ | exact Or.inr ⟨_, rfl⟩) (Or.inr rfl) (by decide +kernel) rfl ?_
  refine V_eqS (σ' := mkS LI33 LR91) rfl ?_
  refine V_aload_n dM_init_137 rfl ?_
  refine V_bipush (v := 60) dM_init_138 (by decide) ?_
  refine V_newI (N := 60) (bs' := 1530) dM_init_140 ac_int (Zr_mk (by rw [kl88]; decide +kernel)) (by decide) (by decide) (by decide) (by decide +kernel) (by decide) ?_
  rw [kl88, show KT 88 ++ [(20, 60)] = KT 89 by decide +kernel]
  refine V_putR dM_init_142 flM_71 fpM_20 (by first | exact Or.inl ⟨_, rfl⟩ | exact Or.inr ⟨_, rfl⟩) (Or.inr rfl) (by decide +kernel) rfl ?_
  refine V_eqS (σ' := mkS LI33 LR92) rfl ?_
  refine V_aload_n dM_init_145 rfl ?_
  refine V_bipush (v := 60) dM_init_146 (by decide) ?_
  refine V_newI (N := 60) (bs' := 1470) dM_init_148 ac_int (Zr_mk (by rw [kl89]; decide +kernel)) (by decide) (by decide) (by decide) (by decide +kernel) (by decide) ?_
  rw [kl89, show KT 89 ++ [(20, 60)] = KT 90 by decide +kernel]
  refine V_putR dM_init_150 flM_74 fpM_21 (by first | exact Or.inl ⟨_, rfl⟩ | exact Or.inr ⟨_, rfl⟩) (Or.inr rfl) (by decide +kernel) rfl ?_
  refine V_eqS (σ' := mkS LI33 LR93) rfl ?_
  refine V_aload_n dM_init_153 rfl ?_
  refine V_sipush (v := 600) dM_init_154 (by decide) ?_
  refine V_newI (N := 600) (bs' := 870) dM_init_157 ac_int (Zr_mk (by rw [kl90]; decide +kernel)) (by decide) (by decide) (by decide) (by decide +kernel) (by decide) ?_
  rw [kl90, show KT 90 ++ [(20, 600)] = KT 91 by decide +kernel]
  refine V_putR dM_init_159 flM_77 fpM_22 (by first | exact Or.inl ⟨_, rfl⟩ | exact Or.inr ⟨_, rfl⟩) (Or.inr rfl) (by decide +kernel) rfl ?_
  refine V_eqS (σ' := mkS LI33 LR94) rfl ?_
  refine V_aload_n dM_init_162 rfl ?_
  refine V_bipush (v := 101) dM_init_163 (by decide) ?_
  refine V_newI (N := 101) (bs' := 769) dM_init_165 ac_int (Zr_mk (by rw [kl91]; decide +kernel)) (by decide) (by decide) (by decide) (by decide +kernel) (by decide) ?_
  rw [kl91, show KT 91 ++ [(20, 101)] = KT 92 by decide +kernel]
  refine V_putR dM_init_167 flM_80 fpM_23 (by first | exact Or.inl ⟨_, rfl⟩ | exact Or.inr ⟨_, rfl⟩) (Or.inr rfl) (by decide +kernel) rfl ?_
  refine V_eqS (σ' := mkS LI33 LR95) rfl ?_
  refine V_aload_n dM_init_170 rfl ?_
  refine V_iconst (v := 0) dM_init_171 (by decide) ?_
  refine V_putI dM_init_172 flM_83 (fpM_24 _) (Or.inl rfl) (by decide +kernel) rfl ?_
  refine V_eqS (σ' := mkS LI34 LR95) rfl ?_
  refine V_aload_n dM_init_175 rfl ?_
  refine V_iconst (v := 0) dM_init_176 (by decide) ?_
  refine V_putI dM_init_177 flM_86 (fpM_25 _) (Or.inl rfl) (by decide +kernel) rfl ?_
  refine V_eqS (σ' := mkS LI35 LR95) rfl ?_
  refine V_aload_n dM_init_180 rfl ?_
  refine V_iconst (v := 0) dM_init_181 (by decide) ?_
  refine V_putI dM_init_182 flM_89 (fpM_26 _) (Or.inl rfl) (by decide +kernel) rfl ?_
  refine V_eqS (σ' := mkS LI36 LR95) rfl ?_
  refine V_aload_n dM_init_185 rfl ?_
  refine V_bipush (v := 11) dM_init_186 (by decide) ?_
  refine V_newI (N := 11) (bs' := 758) dM_init_188 ac_int (Zr_mk (by rw [kl92]; decide +kernel)) (by decide) (by decide) (by decide) (by decide +kernel) (by decide) ?_
  rw [kl92, show KT 92 ++ [(20, 11)] = KT 93 by decide +kernel]
  refine V_dup dM_init_190 rfl ?_
  refine V_iconst (v := 0) dM_init_191 (by decide) ?_
  refine V_bipush (v := 109) dM_init_192 (by decide) ?_
  refine V_iastN (n := 11) (j := 0) dM_init_194 (by decide +kernel) rfl (by decide) (by decide) ?_
  refine V_eqS (σ' := mkS LI37 LR95) rfl ?_
  refine V_dup dM_init_195 rfl ?_
  refine V_iconst (v := 1) dM_init_196 (by decide) ?_
  refine V_bipush (v := 111) dM_init_197 (by decide) ?_
  refine V_iastN (n := 11) (j := 1) dM_init_199 (by decide +kernel) rfl (by decide) (by decide) ?_
  refine V_eqS (σ' := mkS LI38 LR95) rfl ?_
  refine V_dup dM_init_200 rfl ?_
  refine V_iconst (v := 2) dM_init_201 (by decide) ?_
  refine V_bipush (v := 114) dM_init_202 (by decide) ?_
  refine V_iastN (n := 11) (j := 2) dM_init_204 (by decide +kernel) rfl (by decide) (by decide) ?_
  refine V_eqS (σ' := mkS LI39 LR95) rfl ?_
  refine V_dup dM_init_205 rfl ?_
  refine V_iconst (v := 3) dM_init_206 (by decide) ?_
  refine V_bipush (v := 101) dM_init_207 (by decide) ?_
  refine V_iastN (n := 11) (j := 3) dM_init_209 (by decide +kernel) rfl (by decide) (by decide) ?_
  refine V_eqS (σ' := mkS LI40 LR95) rfl ?_
  refine V_dup dM_init_210 rfl ?_
  refine V_iconst (v := 4) dM_init_211 (by decide) ?_
  refine V_bipush (v := 116) dM_init_212 (by decide) ?_
  refine V_iastN (n := 11) (j := 4) dM_init_214 (by decide +kernel) rfl (by decide) (by decide) ?_
  refine V_eqS (σ' := mkS LI41 LR95) rfl ?_
  refine V_dup dM_init_215 rfl ?_
  refine V_iconst (v := 5) dM_init_216 (by decide) ?_
  refine V_bipush (v := 97) dM_init_217 (by decide) ?_
  refine V_iastN (n := 11) (j := 5) dM_init_219 (by decide +kernel) rfl (by decide) (by decide) ?_
  refine V_eqS (σ' := mkS LI42 LR95) rfl ?_
  refine V_dup dM_init_220 rfl ?_
  refine V_bipush (v := 6) dM_init_221 (by decide) ?_
  refine V_bipush (v := 120) dM_init_223 (by decide) ?_
  refine V_iastN (n := 11) (j := 6) dM_init_225 (by decide +kernel) rfl (by decide) (by decide) ?_
  refine V_eqS (σ' := mkS LI43 LR95) rfl ?_
  refine V_dup dM_init_226 rfl ?_
  refine V_bipush (v := 7) dM_init_227 (by decide) ?_
  refine V_bipush (v := 98) dM_init_229 (by decide) ?_
  refine V_iastN (n := 11) (j := 7) dM_init_231 (by decide +kernel) rfl (by decide) (by decide) ?_
  refine V_eqS (σ' := mkS LI44 LR95) rfl ?_
  refine V_dup dM_init_232 rfl ?_
  refine V_bipush (v := 8) dM_init_233 (by decide) ?_
  refine V_bipush (v := 97) dM_init_235 (by decide) ?_
  refine V_iastN (n := 11) (j := 8) dM_init_237 (by decide +kernel) rfl (by decide) (by decide) ?_
  refine V_eqS (σ' := mkS LI45 LR95) rfl ?_
  refine V_dup dM_init_238 rfl ?_
  refine V_bipush (v := 9) dM_init_239 (by decide) ?_
  refine V_bipush (v := 115) dM_init_241 (by decide) ?_
  refine V_iastN (n := 11) (j := 9) dM_init_243 (by decide +kernel) rfl (by decide) (by decide) ?_
  refine V_eqS (σ' := mkS LI46 LR95) rfl ?_
  refine V_dup dM_init_244 rfl ?_
  refine V_bipush (v := 10) dM_init_245 (by decide) ?_
  refine V_bipush (v := 101) dM_init_247 (by decide) ?_
  refine V_iastN (n := 11) (j := 10) dM_init_249 (by decide +kernel) rfl (by decide) (by decide) ?_
  refine V_eqS (σ' := mkS LI47 LR95) rfl ?_
  refine V_putR dM_init_250 flM_92 fpM_27 (by first | exact Or.inl ⟨_, rfl⟩ | exact Or.inr ⟨_, rfl⟩) (Or.inr rfl) (by decide +kernel) rfl ?_
  refine V_eqS (σ' := mkS LI47 LR96) rfl ?_
  refine V_aload_n dM_init_253 rfl ?_
  refine V_bipush (v := 100) dM_init_254 (by decide) ?_
  refine V_newZ (N := 100) (bs' := 658) dM_init_256 ac_boolean (Zr_mk (by rw [kl93]; decide +kernel)) (by decide) (by decide) (by decide) (by decide +kernel) (by decide) ?_
  rw [kl93, show KT 93 ++ [(21, 100)] = KT 94 by decide +kernel]
  refine V_putR dM_init_258 flM_95 fpM_28 (by first | exact Or.inl ⟨_, rfl⟩ | exact Or.inr ⟨_, rfl⟩) (Or.inr rfl) (by decide +kernel) rfl ?_
  refine V_eqS (σ' := mkS LI47 LR97) rfl ?_
  refine V_aload_n dM_init_261 rfl ?_
  refine V_bipush (v := 48) dM_init_262 (by decide) ?_
  refine V_newI (N := 48) (bs' := 610) dM_init_264 ac_int (Zr_mk (by rw [kl94]; decide +kernel)) (by decide) (by decide) (by decide) (by decide +kernel) (by decide) ?_
  rw [kl94, show KT 94 ++ [(20, 48)] = KT 95 by decide +kernel]
  refine V_putR dM_init_266 flM_99 fpM_29 (by first | exact Or.inl ⟨_, rfl⟩ | exact Or.inr ⟨_, rfl⟩) (Or.inr rfl) (by decide +kernel) rfl ?_
  refine V_eqS (σ' := mkS LI47 LR98) rfl ?_
  refine V_aload_n dM_init_269 rfl ?_
  refine V_iconst (v := 0) dM_init_270 (by decide) ?_
  refine V_putI dM_init_271 flM_102 (fpM_30 _) (Or.inl rfl) (by decide +kernel) rfl ?_
  refine V_eqS (σ' := mkS LI48 LR98) rfl ?_
  refine V_aload_n dM_init_274 rfl ?_
  refine V_bipush (v := 8) dM_init_275 (by decide) ?_
  refine V_newI (N := 8) (bs' := 602) dM_init_277 ac_int (Zr_mk (by rw [kl95]; decide +kernel)) (by decide) (by decide) (by decide) (by decide +kernel) (by decide) ?_
  rw [kl95, show KT 95 ++ [(20, 8)] = KT 96 by decide +kernel]
  refine V_putR dM_init_279 flM_105 fpM_31 (by first | exact Or.inl ⟨_, rfl⟩ | exact Or.inr ⟨_, rfl⟩) (Or.inr rfl) (by decide +kernel) rfl ?_
  refine V_eqS (σ' := mkS LI48 LR99) rfl ?_
  refine V_aload_n dM_init_282 rfl ?_
  refine V_bipush (v := 8) dM_init_283 (by decide) ?_
  refine V_newZ (N := 8) (bs' := 594) dM_init_285 ac_boolean (Zr_mk (by rw [kl96]; decide +kernel)) (by decide) (by decide) (by decide) (by decide +kernel) (by decide) ?_
  rw [kl96, show KT 96 ++ [(21, 8)] = KT 97 by decide +kernel]
  refine V_putR dM_init_287 flM_108 fpM_32 (by first | exact Or.inl ⟨_, rfl⟩ | exact Or.inr ⟨_, rfl⟩) (Or.inr rfl) (by decide +kernel) rfl ?_
  refine V_eqS (σ' := mkS LI48 LR100) rfl ?_
  refine V_aload_n dM_init_290 rfl ?_
  refine V_iconst (v := 0) dM_init_291 (by decide) ?_
  refine V_putI dM_init_292 flM_111 (fpM_33 _) (Or.inl rfl) (by decide +kernel) rfl ?_
  refine V_eqS (σ' := mkS LI49 LR100) rfl ?_
  refine V_aload_n dM_init_295 rfl ?_
  refine V_bipush (v := 8) dM_init_296 (by decide) ?_
  refine V_newI (N := 8) (bs' := 586) dM_init_298 ac_int (Zr_mk (by rw [kl97]; decide +kernel)) (by decide) (by decide) (by decide) (by decide +kernel) (by decide) ?_
  rw [kl97, show KT 97 ++ [(20, 8)] = KT 98 by decide +kernel]
  refine V_putR dM_init_300 flM_114 fpM_34 (by first | exact Or.inl ⟨_, rfl⟩ | exact Or.inr ⟨_, rfl⟩) (Or.inr rfl) (by decide +kernel) rfl ?_
  refine V_eqS (σ' := mkS LI49 LR101) rfl ?_
  refine V_aload_n dM_init_303 rfl ?_
  refine V_bipush (v := 8) dM_init_304 (by decide) ?_
  refine V_newI (N := 8) (bs' := 578) dM_init_306 ac_int (Zr_mk (by rw [kl98]; decide +kernel)) (by decide) (by decide) (by decide) (by decide +kernel) (by decide) ?_
  rw [kl98, show KT 98 ++ [(20, 8)] = KT 99 by decide +kernel]
  refine V_putR dM_init_308 flM_117 fpM_35 (by first | exact Or.inl ⟨_, rfl⟩ | exact Or.inr ⟨_, rfl⟩) (Or.inr rfl) (by decide +kernel) rfl ?_
  refine V_eqS (σ' := mkS LI49 LR102) rfl ?_
  refine V_aload_n dM_init_311 rfl ?_
  refine V_bipush (v := 8) dM_init_312 (by decide) ?_
  refine V_newI (N := 8) (bs' := 570) dM_init_314 ac_int (Zr_mk (by rw [kl99]; decide +kernel)) (by decide) (by decide) (by decide) (by decide +kernel) (by decide) ?_
  rw [kl99, show KT 99 ++ [(20, 8)] = KT 100 by decide +kernel]
  refine V_putR dM_init_316 flM_120 fpM_36 (by first | exact Or.inl ⟨_, rfl⟩ | exact Or.inr ⟨_, rfl⟩) (Or.inr rfl) (by decide +kernel) rfl ?_
  refine V_eqS (σ' := mkS LI49 LR103) rfl ?_
  refine V_aload_n dM_init_319 rfl ?_
  refine V_iconst (v := 0) dM_init_320 (by decide) ?_
  refine V_putZ dM_init_321 flM_123 (fpM_37 _) (Or.inl rfl) (by decide +kernel) rfl (by decide) ?_
  refine V_eqS (σ' := mkS LI50 LR103) rfl ?_
  refine V_aload_n dM_init_324 rfl ?_
  refine V_iconst (v := -1) dM_init_325 (by decide) ?_
  refine V_putI dM_init_326 flM_127 (fpM_38 _) (Or.inl rfl) (by decide +kernel) rfl ?_
  refine V_eqS (σ' := mkS LI51 LR103) rfl ?_
  refine V_aload_n dM_init_329 rfl ?_
  refine V_iconst (v := 0) dM_init_330 (by decide) ?_
  refine V_putI dM_init_331 flM_130 (fpM_39 _) (Or.inl rfl) (by decide +kernel) rfl ?_
  refine V_eqS (σ' := mkS LI52 LR103) rfl ?_
  refine V_aload_n dM_init_334 rfl ?_
  refine V_iconst (v := 0) dM_init_335 (by decide) ?_
  refine V_putI dM_init_336 flM_133 (fpM_40 _) (Or.inl rfl) (by decide +kernel) rfl ?_
  refine V_eqS (σ' := mkS LI53 LR103) rfl ?_
  refine V_aload_n dM_init_339 rfl ?_
  refine V_iconst (v := 0) dM_init_340 (by decide) ?_
  refine V_putI dM_init_341 flM_136 (fpM_41 _) (Or.inl rfl) (by decide +kernel) rfl ?_
  refine V_eqS (σ' := mkS LI54 LR103) rfl ?_
  refine V_aload_n dM_init_344 rfl ?_
  refine V_iconst (v := 0) dM_init_345 (by decide) ?_
  refine V_putI dM_init_346 flM_139 (fpM_42 _) (Or.inl rfl) (by decide +kernel) rfl ?_
  refine V_eqS (σ' := mkS LI55 LR103) rfl ?_
  refine V_aload_n dM_init_349 rfl ?_
  refine V_iconst (v := 0) dM_init_350 (by decide) ?_
  refine V_putI dM_init_351 flM_142 (fpM_43 _) (Or.inl rfl) (by decide +kernel) rfl ?_
  refine V_eqS (σ' := mkS LI56 LR103) rfl ?_
  refine V_aload_n dM_init_354 rfl ?_
  refine V_iconst (v := 0) dM_init_355 (by decide) ?_
  refine V_putI dM_init_356 flM_145 (fpM_44 _) (Or.inl rfl) (by decide +kernel) rfl ?_
  refine V_eqS (σ' := mkS LI57 LR103) rfl ?_
  refine V_aload_n dM_init_359 rfl ?_
  refine V_bipush (v := 6) dM_init_360 (by decide) ?_
  refine V_newI (N := 6) (bs' := 564) dM_init_362 ac_int (Zr_mk (by rw [kl100]; decide +kernel)) (by decide) (by decide) (by decide) (by decide +kernel) (by decide) ?_
  rw [kl100, show KT 100 ++ [(20, 6)] = KT 101 by decide +kernel]
  refine V_putR dM_init_364 flM_148 fpM_45 (by first | exact Or.inl ⟨_, rfl⟩ | exact Or.inr ⟨_, rfl⟩) (Or.inr rfl) (by decide +kernel) rfl ?_
  refine V_eqS (σ' := mkS LI57 LR104) rfl ?_
  refine V_aload_n dM_init_367 rfl ?_
  refine V_bipush (v := 8) dM_init_368 (by decide) ?_
  refine V_newI (N := 8) (bs' := 556) dM_init_370 ac_int (Zr_mk (by rw [kl101]; decide +kernel)) (by decide) (by decide) (by decide) (by decide +kernel) (by decide) ?_
  rw [kl101, show KT 101 ++ [(20, 8)] = KT 102 by decide +kernel]
  refine V_putR dM_init_372 flM_151 fpM_46 (by first | exact Or.inl ⟨_, rfl⟩ | exact Or.inr ⟨_, rfl⟩) (Or.inr rfl) (by decide +kernel) rfl ?_
  refine V_eqS (σ' := mkS LI57 LR105) rfl ?_
  refine V_aload_n dM_init_375 rfl ?_
  refine V_bipush (v := 8) dM_init_376 (by decide) ?_
  refine V_newI (N := 8) (bs' := 548) dM_init_378 ac_int (Zr_mk (by rw [kl102]; decide +kernel)) (by decide) (by decide) (by decide) (by decide +kernel) (by decide) ?_
  rw [kl102, show KT 102 ++ [(20, 8)] = KT 103 by decide +kernel]
  refine V_putR dM_init_380 flM_154 fpM_47 (by first | exact Or.inl ⟨_, rfl⟩ | exact Or.inr ⟨_, rfl⟩) (Or.inr rfl) (by decide +kernel) rfl ?_
  refine V_eqS (σ' := mkS LI57 LR106) rfl ?_
  refine V_aload_n dM_init_383 rfl ?_
  refine V_bipush (v := 8) dM_init_384 (by decide) ?_
  refine V_newI (N := 8) (bs' := 540) dM_init_386 ac_int (Zr_mk (by rw [kl103]; decide +kernel)) (by decide) (by decide) (by decide) (by decide +kernel) (by decide) ?_
  rw [kl103, show KT 103 ++ [(20, 8)] = KT 104 by decide +kernel]
  refine V_putR dM_init_388 flM_157 fpM_48 (by first | exact Or.inl ⟨_, rfl⟩ | exact Or.inr ⟨_, rfl⟩) (Or.inr rfl) (by decide +kernel) rfl ?_
  refine V_eqS (σ' := mkS LI57 LR107) rfl ?_
  refine V_aload_n dM_init_391 rfl ?_
  refine V_bipush (v := 8) dM_init_392 (by decide) ?_
  refine V_newI (N := 8) (bs' := 532) dM_init_394 ac_int (Zr_mk (by rw [kl104]; decide +kernel)) (by decide) (by decide) (by decide) (by decide +kernel) (by decide) ?_
  rw [kl104, show KT 104 ++ [(20, 8)] = KT 105 by decide +kernel]
  refine V_putR dM_init_396 flM_160 fpM_49 (by first | exact Or.inl ⟨_, rfl⟩ | exact Or.inr ⟨_, rfl⟩) (Or.inr rfl) (by decide +kernel) rfl ?_
  refine V_eqS (σ' := mkS LI57 LR108) rfl ?_
  refine V_aload_n dM_init_399 rfl ?_
  refine V_bipush (v := 8) dM_init_400 (by decide) ?_
  refine V_newI (N := 8) (bs' := 524) dM_init_402 ac_int (Zr_mk (by rw [kl105]; decide +kernel)) (by decide) (by decide) (by decide) (by decide +kernel) (by decide) ?_
  rw [kl105, show KT 105 ++ [(20, 8)] = KT 106 by decide +kernel]
  refine V_putR dM_init_404 flM_163 fpM_50 (by first | exact Or.inl ⟨_, rfl⟩ | exact Or.inr ⟨_, rfl⟩) (Or.inr rfl) (by decide +kernel) rfl ?_
  refine V_eqS (σ' := mkS LI57 LR109) rfl ?_
  refine V_aload_n dM_init_407 rfl ?_
  refine V_bipush (v := 32) dM_init_408 (by decide) ?_
  refine V_newI (N := 32) (bs' := 492) dM_init_410 ac_int (Zr_mk (by rw [kl106]; decide +kernel)) (by decide) (by decide) (by decide) (by decide +kernel) (by decide) ?_
  rw [kl106, show KT 106 ++ [(20, 32)] = KT 107 by decide +kernel]
  refine V_putR dM_init_412 flM_166 fpM_51 (by first | exact Or.inl ⟨_, rfl⟩ | exact Or.inr ⟨_, rfl⟩) (Or.inr rfl) (by decide +kernel) rfl ?_
  refine V_eqS (σ' := mkS LI57 LR110) rfl ?_
  refine V_aload_n dM_init_415 rfl ?_
  refine V_bipush (v := 8) dM_init_416 (by decide) ?_
  refine V_newI (N := 8) (bs' := 484) dM_init_418 ac_int (Zr_mk (by rw [kl107]; decide +kernel)) (by decide) (by decide) (by decide) (by decide +kernel) (by decide) ?_
  rw [kl107, show KT 107 ++ [(20, 8)] = KT 108 by decide +kernel]
  refine V_putR dM_init_420 flM_169 fpM_52 (by first | exact Or.inl ⟨_, rfl⟩ | exact Or.inr ⟨_, rfl⟩) (Or.inr rfl) (by decide +kernel) rfl ?_
  refine V_eqS (σ' := mkS LI57 LR111) rfl ?_
  refine V_aload_n dM_init_423 rfl ?_
  refine V_bipush (v := 8) dM_init_424 (by decide) ?_
  refine V_newI (N := 8) (bs' := 476) dM_init_426 ac_int (Zr_mk (by rw [kl108]; decide +kernel)) (by decide) (by decide) (by decide) (by decide +kernel) (by decide) ?_
  rw [kl108, show KT 108 ++ [(20, 8)] = KT 109 by decide +kernel]
  refine V_putR dM_init_428 flM_172 fpM_53 (by first | exact Or.inl ⟨_, rfl⟩ | exact Or.inr ⟨_, rfl⟩) (Or.inr rfl) (by decide +kernel) rfl ?_
  refine V_eqS (σ' := mkS LI57 LR112) rfl ?_
  refine V_aload_n dM_init_431 rfl ?_
  refine V_bipush (v := 8) dM_init_432 (by decide) ?_
  refine V_newI (N := 8) (bs' := 468) dM_init_434 ac_int (Zr_mk (by rw [kl109]; decide +kernel)) (by decide) (by decide) (by decide) (by decide +kernel) (by decide) ?_
  rw [kl109, show KT 109 ++ [(20, 8)] = KT 110 by decide +kernel]
  refine V_putR dM_init_436 flM_175 fpM_54 (by first | exact Or.inl ⟨_, rfl⟩ | exact Or.inr ⟨_, rfl⟩) (Or.inr rfl) (by decide +kernel) rfl ?_
  refine V_eqS (σ' := mkS LI57 LR113) rfl ?_
  refine V_aload_n dM_init_439 rfl ?_
  refine V_bipush (v := 8) dM_init_440 (by decide) ?_
  refine V_newI (N := 8) (bs' := 460) dM_init_442 ac_int (Zr_mk (by rw [kl110]; decide +kernel)) (by decide) (by decide) (by decide) (by decide +kernel) (by decide) ?_
  rw [kl110, show KT 110 ++ [(20, 8)] = KT 111 by decide +kernel]
  refine V_putR dM_init_444 flM_178 fpM_55 (by first | exact Or.inl ⟨_, rfl⟩ | exact Or.inr ⟨_, rfl⟩) (Or.inr rfl) (by decide +kernel) rfl ?_
  refine V_eqS (σ' := mkS LI57 LR114) rfl ?_
  refine V_aload_n dM_init_447 rfl ?_
  refine V_bipush (v := 8) dM_init_448 (by decide) ?_
  refine V_newZ (N := 8) (bs' := 452) dM_init_450 ac_boolean (Zr_mk (by rw [kl111]; decide +kernel)) (by decide) (by decide) (by decide) (by decide +kernel) (by decide) ?_
  rw [kl111, show KT 111 ++ [(21, 8)] = KT 112 by decide +kernel]
  refine V_putR dM_init_452 flM_181 fpM_56 (by first | exact Or.inl ⟨_, rfl⟩ | exact Or.inr ⟨_, rfl⟩) (Or.inr rfl) (by decide +kernel) rfl ?_
  refine V_eqS (σ' := mkS LI57 LR115) rfl ?_
  refine V_aload_n dM_init_455 rfl ?_
  refine V_iconst (v := 0) dM_init_456 (by decide) ?_
  refine V_putI dM_init_457 flM_184 (fpM_57 _) (Or.inl rfl) (by decide +kernel) rfl ?_
  refine V_eqS (σ' := mkS LI58 LR115) rfl ?_
  refine V_aload_n dM_init_460 rfl ?_
  refine V_bipush (v := 20) dM_init_461 (by decide) ?_
  refine V_newI (N := 20) (bs' := 432) dM_init_463 ac_int (Zr_mk (by rw [kl112]; decide +kernel)) (by decide) (by decide) (by decide) (by decide +kernel) (by decide) ?_
  rw [kl112, show KT 112 ++ [(20, 20)] = KT 113 by decide +kernel]
  refine V_putR dM_init_465 flM_187 fpM_58 (by first | exact Or.inl ⟨_, rfl⟩ | exact Or.inr ⟨_, rfl⟩) (Or.inr rfl) (by decide +kernel) rfl ?_
  refine V_eqS (σ' := mkS LI58 LR116) rfl ?_
  refine V_aload_n dM_init_468 rfl ?_
  refine V_bipush (v := 6) dM_init_469 (by decide) ?_
  refine V_newI (N := 6) (bs' := 426) dM_init_471 ac_int (Zr_mk (by rw [kl113]; decide +kernel)) (by decide) (by decide) (by decide) (by decide +kernel) (by decide) ?_
  rw [kl113, show KT 113 ++ [(20, 6)] = KT 114 by decide +kernel]
  refine V_dup dM_init_473 rfl ?_
  refine V_iconst (v := 0) dM_init_474 (by decide) ?_
  refine V_iconst (v := -1) dM_init_475 (by decide) ?_
  refine V_iastN (n := 6) (j := 0) dM_init_476 (by decide +kernel) rfl (by decide) (by decide) ?_
  refine V_eqS (σ' := mkS LI59 LR116) rfl ?_
  refine V_dup dM_init_477 rfl ?_
  refine V_iconst (v := 1) dM_init_478 (by decide) ?_
  refine V_iconst (v := -1) dM_init_479 (by decide) ?_
  refine V_iastN (n := 6) (j := 1) dM_init_480 (by decide +kernel) rfl (by decide) (by decide) ?_
  refine V_eqS (σ' := mkS LI60 LR116) rfl ?_
  refine V_dup dM_init_481 rfl ?_
  refine V_iconst (v := 2) dM_init_482 (by decide) ?_
  refine V_iconst (v := -1) dM_init_483 (by decide) ?_
  refine V_iastN (n := 6) (j := 2) dM_init_484 (by decide +kernel) rfl (by decide) (by decide) ?_
  refine V_eqS (σ' := mkS LI61 LR116) rfl ?_
  refine V_dup dM_init_485 rfl ?_
  refine V_iconst (v := 3) dM_init_486 (by decide) ?_
  refine V_iconst (v := -1) dM_init_487 (by decide) ?_
  refine V_iastN (n := 6) (j := 3) dM_init_488 (by decide +kernel) rfl (by decide) (by decide) ?_
  refine V_eqS (σ' := mkS LI62 LR116) rfl ?_
  refine V_dup dM_init_489 rfl ?_
  refine V_iconst (v := 4) dM_init_490 (by decide) ?_
  refine V_iconst (v := -1) dM_init_491 (by decide) ?_
  refine V_iastN (n := 6) (j := 4) dM_init_492 (by decide +kernel) rfl (by decide) (by decide) ?_
  refine V_eqS (σ' := mkS LI63 LR116) rfl ?_
  refine V_dup dM_init_493 rfl ?_
  refine V_iconst (v := 5) dM_init_494 (by decide) ?_
  refine V_iconst (v := -1) dM_init_495 (by decide) ?_
  refine V_iastN (n := 6) (j := 5) dM_init_496 (by decide +kernel) rfl (by decide) (by decide) ?_
  refine V_eqS (σ' := mkS LI64 LR116) rfl ?_
  refine V_putR dM_init_497 flM_190 fpM_59 (by first | exact Or.inl ⟨_, rfl⟩ | exact Or.inr ⟨_, rfl⟩) (Or.inr rfl) (by decide +kernel) rfl ?_
  refine V_eqS (σ' := mkS LI64 LR117) rfl ?_
  refine V_aload_n dM_init_500 rfl ?_
  refine V_bipush (v := 6) dM_init_501 (by decide) ?_
  refine V_newI (N := 6) (bs' := 420) dM_init_503 ac_int (Zr_mk (by rw [kl114]; decide +kernel)) (by decide) (by decide) (by decide) (by decide +kernel) (by decide) ?_
  rw [kl114, show KT 114 ++ [(20, 6)] = KT 115 by decide +kernel]
  refine V_putR dM_init_505 flM_193 fpM_60 (by first | exact Or.inl ⟨_, rfl⟩ | exact Or.inr ⟨_, rfl⟩) (Or.inr rfl) (by decide +kernel) rfl ?_
  refine V_eqS (σ' := mkS LI64 LR118) rfl ?_
  refine V_aload_n dM_init_508 rfl ?_
  refine V_sipush (v := 360) dM_init_509 (by decide) ?_
  refine V_newJ (N := 360) (bs' := 60) dM_init_512 ac_long (Zr_mk (by rw [kl115]; decide +kernel)) (by decide) (by decide) (by decide) (by decide +kernel) (by decide) ?_
  rw [kl115, show KT 115 ++ [(22, 360)] = KT 116 by decide +kernel]
  refine V_putR dM_init_514 flM_196 fpM_61 (by first | exact Or.inl ⟨_, rfl⟩ | exact Or.inr ⟨_, rfl⟩) (Or.inr rfl) (by decide +kernel) rfl ?_
  refine V_eqS (σ' := mkS LI64 LR119) rfl ?_
  refine V_aload_n dM_init_517 rfl ?_
  refine V_bipush (v := 60) dM_init_518 (by decide) ?_
  refine V_newJ (N := 60) (bs' := 0) dM_init_520 ac_long (Zr_mk (by rw [kl116]; decide +kernel)) (by decide) (by decide) (by decide) (by decide +kernel) (by decide) ?_
  rw [kl116, show KT 116 ++ [(22, 60)] = KT 117 by decide +kernel]
  refine V_putR dM_init_522 flM_200 fpM_62 (by first | exact Or.inl ⟨_, rfl⟩ | exact Or.inr ⟨_, rfl⟩) (Or.inr rfl) (by decide +kernel) rfl ?_
  refine V_eqS (σ' := mkS LI64 LR120) rfl ?_
  exact V_ret dM_init_525 rfl (by decide +kernel) ⟨rfl, rfl, rfl⟩
