/-! CONTRACTS of the reference, the sixth part, printed by program -/
section CT9
end CT9
