import java.math.BigInteger;

/** The chain of measures by the document's words, in numbers without an end. */
final class Measures {
    private Measures() {
    }

    static int chain(int... numbers) {
        BigInteger register = BigInteger.ZERO;
        for (int number : numbers) {
            register = register.multiply(BigInteger.valueOf(31)).add(BigInteger.valueOf(number + 7L))
                    .mod(BigInteger.valueOf(1000003));
        }
        return register.intValueExact();
    }
}
