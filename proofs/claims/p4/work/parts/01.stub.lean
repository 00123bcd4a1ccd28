def jj_T : List Cond := tables_1.filter goodWord
theorem jj_T_good : ∀ w ∈ jj_T, goodWord w = true := fun w hw => (List.mem_filter.mp hw).2
def vwCl : List vw_C := []
def jj_nm : List (String × Nat × MethodName × String) := []
def jj_hw : List Cond := []
