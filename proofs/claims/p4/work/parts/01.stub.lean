def jj_T : List Cond := tables_1.filter goodWord
theorem jj_T_good : ∀ w ∈ jj_T, goodWord w = true := fun w hw => (List.mem_filter.mp hw).2
def vwCl : List vw_C := []
def jj_nm : List (String × Nat × MethodName × String) := []
def jj_hw : List Cond := []
def jj_nS : Nat := 0
def jj_lS : List Nat := []
def jj_bS : List (List Int32) := []
def jj_str : List (String × Nat × String × Nat) := []
def jj_sta : List (String × String × String × Value) := []
