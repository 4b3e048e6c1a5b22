section PARSE6
end PARSE6
