import java.math.BigInteger;

/** A fraction without a bound, in lowest terms, its lower number above 0. */
record Part(BigInteger top, BigInteger bottom) {
    static final Part ZERO = of(0, 1);

    static Part of(long a, long b) {
        return lowest(BigInteger.valueOf(a), BigInteger.valueOf(b));
    }

    private static Part lowest(BigInteger a, BigInteger b) {
        BigInteger common = a.gcd(b);
        BigInteger divisor = b.signum() < 0 ? common.negate() : common;
        return new Part(a.divide(divisor), b.divide(divisor));
    }

    Part plus(Part o) {
        return lowest(top.multiply(o.bottom).add(o.top.multiply(bottom)), bottom.multiply(o.bottom));
    }

    Part times(Part o) {
        return lowest(top.multiply(o.top), bottom.multiply(o.bottom));
    }

    Part by(Part o) {
        return lowest(top.multiply(o.bottom), bottom.multiply(o.top));
    }

    Part less(Part o) {
        return plus(o.times(of(-1, 1)));
    }

    int against(Part o) {
        return top.multiply(o.bottom).compareTo(o.top.multiply(bottom));
    }
}
