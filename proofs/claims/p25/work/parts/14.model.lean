section WK3

end WK3
