section ST14
end ST14
