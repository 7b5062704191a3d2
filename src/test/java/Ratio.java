import java.math.BigInteger;

/** A fraction of any size, for the tests. */
final class Ratio {
    static final Ratio ZERO = of(0);
    static final Ratio ONE = of(1);
    final BigInteger above;
    final BigInteger below;

    Ratio(BigInteger above, BigInteger below) {
        BigInteger shared = above.gcd(below);
        if (below.signum() < 0) shared = shared.negate();
        this.above = above.divide(shared);
        this.below = below.divide(shared);
    }

    static Ratio of(long v) {
        return new Ratio(BigInteger.valueOf(v), BigInteger.ONE);
    }

    Ratio plus(Ratio o) {
        return new Ratio(above.multiply(o.below).add(o.above.multiply(below)), below.multiply(o.below));
    }

    Ratio minus(Ratio o) {
        return plus(o.times(of(-1)));
    }

    Ratio times(Ratio o) {
        return new Ratio(above.multiply(o.above), below.multiply(o.below));
    }

    Ratio by(Ratio o) {
        return new Ratio(above.multiply(o.below), below.multiply(o.above));
    }

    int sign() {
        return above.signum();
    }

    boolean same(Ratio o) {
        return above.equals(o.above) && below.equals(o.below);
    }

    long told(int what) {
        return (what == 0 ? above : below).longValueExact();
    }

    long whole() {
        if (!below.equals(BigInteger.ONE)) throw new IllegalStateException("no whole number: " + above + "/" + below);
        return above.longValueExact();
    }
}
