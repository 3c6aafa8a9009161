theorem fr_all : ∀ i : Nat, i < 19 → Cond.stringRef (sOwn.getD i ("", 0, "")).1 (sOwn.getD i ("", 0, "")).2.1 (sOwn.getD i ("", 0, "")).2.2 ∈ lw_tbl := by decide +kernel
theorem fr_287 : Cond.stringRef RX12 287 "{}()[];,.?:=+-*/%&|^~!<>" ∈ lw_tbl := by decide +kernel
