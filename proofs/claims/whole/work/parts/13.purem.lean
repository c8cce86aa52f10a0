theorem y_S_sF (b : Int32) (t : St) (k : Nat) (v : Int64) : y_S b (sF t k v) = y_S b t := rfl
theorem y_R_sF (t : St) (k : Nat) (v : Int64) : y_R (sF t k v) = y_R t := rfl
theorem y_tU_sF (c : Nat) (t : St) (d : Int64) (k : Nat) (v : Int64) : y_tU c (sF t k v) d = y_tU c t d := rfl
theorem y_tD_sF (t : St) (d : Int64) (k : Nat) (v : Int64) : y_tD (sF t k v) d = y_tD t d := rfl
theorem sF_0 (t : St) (k : Nat) (v : Int64) (h : ¬ 0 = k) : (sF t k v).2.2.1 0 = t.2.2.1 0 := if_neg h
theorem sF_1 (t : St) (k : Nat) (v : Int64) (h : ¬ 1 = k) : (sF t k v).2.2.1 1 = t.2.2.1 1 := if_neg h
theorem sF_2 (t : St) (k : Nat) (v : Int64) (h : ¬ 2 = k) : (sF t k v).2.2.1 2 = t.2.2.1 2 := if_neg h
theorem sF_s (t : St) (k : Nat) (v : Int64) : (sF t k v).2.2.1 k = v := if_pos rfl
def y_tb (c : Nat) (d : Int64) (t : St) : St := sF (sF t 2 (y_tU c t d)) 3 (y_tD t d)

