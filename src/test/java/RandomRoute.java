import java.util.Random;

/** Texts of legs by chance, most of which join one leg to the next. */
final class RandomRoute {
    private static final String[] KINDS = {"TF", "TF", "TF", "TF", "DF", "DF", "CF", "CF", "CA", "CI", "CI", "HF", "IF", "VM"};

    private final Random random;
    /** Courses are multiples of this number, so that some of them meet fixes just ahead of each other. */
    private final int grain;

    RandomRoute(Random random, int grain) {
        this.random = random;
        this.grain = grain;
    }

    private int between(int low, int high) {
        return low + random.nextInt(high - low + 1);
    }

    /** A text of up to so many legs, which is cut off at the end of a leg when it is long. */
    StringBuilder text(int fixes, int mostLegs, int mostBytes) {
        StringBuilder text = new StringBuilder();
        String last = "";
        for (int legs = between(1, mostLegs); legs > 0 && text.length() < mostBytes; legs--) {
            last = kindAfter(last);
            text.append(text.length() == 0 ? "" : ";").append(leg(last, fixes));
        }
        return text;
    }

    private String kindAfter(String last) {
        if (last.isEmpty() && random.nextInt(4) > 0) {
            return "IF";
        }
        if (last.equals("CI") && random.nextInt(4) > 0) {
            return "CF";
        }
        return KINDS[random.nextInt(KINDS.length)];
    }

    private String leg(String kind, int fixes) {
        StringBuilder leg = new StringBuilder(kind);
        if (!kind.equals("CA") && !kind.equals("CI") && !kind.equals("VM")) {
            leg.append(' ').append((char) ('A' + random.nextInt(Math.max(1, fixes))));
        }
        if (!kind.equals("IF") && !kind.equals("TF") && !kind.equals("DF")) {
            leg.append(random.nextBoolean() ? " " : "").append(random.nextInt(24) / grain * grain);
        }
        if (kind.equals("CA")) {
            leg.append(' ').append(between(0, 120));
        }
        if (kind.equals("HF")) {
            leg.append(random.nextBoolean() ? "L" : " R ").append(between(10, 200)).append(' ').append(between(1, 9));
        }
        while (random.nextInt(5) == 0) {
            leg.append(attribute());
        }
        return leg.toString();
    }

    private String attribute() {
        int low = between(0, 120);
        return switch (random.nextInt(6)) {
            case 0 -> " O";
            case 1 -> " A" + low;
            case 2 -> "+" + low;
            case 3 -> "- " + low;
            case 4 -> " B " + low + " " + between(low, 450);
            default -> " S" + between(100, 500);
        };
    }
}
