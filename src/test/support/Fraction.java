import java.math.BigInteger;

/** A fraction in lowest terms, as great as it may be. */
record Fraction(BigInteger up, BigInteger down) {
    static Fraction of(long up, long down) {
        BigInteger g = BigInteger.valueOf(up).gcd(BigInteger.valueOf(down));
        return new Fraction(BigInteger.valueOf(up).divide(g), BigInteger.valueOf(down).divide(g));
    }

    Fraction plus(Fraction o) {
        BigInteger u = up.multiply(o.down).add(o.up.multiply(down)), d = down.multiply(o.down), g = u.gcd(d);
        return new Fraction(u.divide(g), d.divide(g));
    }

    int compare(Fraction o) {
        return up.multiply(o.down).compareTo(o.up.multiply(down));
    }
}
