/-! CONTRACTS of the reference, the fifth part, printed by program -/
section CT8
end CT8
