section C48
variable {M M0 : vM} {c r : Nat} {T R tx : Nat → Int32} {P : List (Nat → Int32)} {Im : Nat → Option (Nat → Int32)} {t : Nat}
end C48
