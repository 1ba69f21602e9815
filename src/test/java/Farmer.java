import java.util.ArrayList;
import java.util.List;
import java.util.Random;

/** Makes up yards and days for the tests, always the same ones by the same seed. */
final class Farmer {
    private static final String[] NAMES = {"a", "bb", "oat", "hay", "rye", "lee", "ditch", "nip", "big", "tom", "jim",
        "wagon", "barn", "abcdefgh", "ric", "ricks", "z", "zz"};
    private final Random random;
    private final List<String> ricks = new ArrayList<>();
    private final List<String> sides = new ArrayList<>();
    private final List<String> dogs = new ArrayList<>();
    private int steps;

    Farmer(Random random) {
        this.random = random;
    }

    private int below(int n) {
        return random.nextInt(n);
    }

    private String one(List<String> of) {
        return of.isEmpty() || below(25) == 0 ? NAMES[below(NAMES.length)] : of.get(below(of.size()));
    }

    /** Mostly within the limits, with both ends often. */
    private int number(int least, int most) {
        int k = below(40);
        if (k == 0) {
            return most + 1;
        }
        if (k == 1) {
            return Math.max(0, least - 1);
        }
        return k < 6 ? most : k < 10 ? least : least + below(most - least + 1);
    }

    String yard() {
        ricks.clear();
        sides.clear();
        dogs.clear();
        List<String> free = new ArrayList<>(List.of(NAMES));
        java.util.Collections.shuffle(free, random);
        StringBuilder text = new StringBuilder();
        int most = below(8) == 0 ? 6 : 5;
        for (int i = below(most); i > 0; i--) {
            String name = free.remove(0);
            text.append("rick ").append(name).append(" holds ").append(below(3) == 0 ? number(0, 99) : below(15));
            text.append(" layers");
            for (int k = below(40) == 0 ? 9 : 1 + below(8); k > 0; k--) {
                text.append(' ').append(below(2) == 0 ? number(0, 99) : below(12));
            }
            text.append(below(5) == 0 ? " caps;" : ";");
            ricks.add(name);
        }
        for (int i = below(most); i > 0; i--) {
            String name = free.remove(0);
            text.append("side ").append(name).append(" weight ").append(number(0, 9));
            text.append(below(4) == 0 ? " net" : "");
            text.append(below(2) == 0 && !ricks.isEmpty() ? " to " + one(ricks) : "").append(";\n");
            sides.add(name);
        }
        for (int i = below(most); i > 0 && !sides.isEmpty(); i--) {
            String name = free.remove(0);
            text.append("dog ").append(name).append(" at ").append(one(sides));
            text.append(" catches ").append(number(1, 20)).append(" tires ").append(number(1, below(2) == 0 ? 200 : 20));
            text.append(";");
            dogs.add(name);
        }
        for (int i = below(most); i > 0 && !sides.isEmpty(); i--) {
            text.append("boy ").append(free.isEmpty() ? "joe" : free.remove(0)).append(" at ").append(one(sides));
            text.append(" reach ").append(number(0, 9)).append(" ;");
        }
        text.append(below(2) == 0 ? "penny " + number(0, 9) + ";" : "");
        text.append(below(2) == 0 ? "corn " + number(0, 9) + ";" : "");
        text.append(below(3) != 0 ? "breed " + number(0, 100) + ";" : "");
        text.append(below(2) == 0 ? "cost " + number(0, 999) + ";" : "");
        text.append(below(40) == 0 ? "penny 1;" : "");
        return text.toString();
    }

    String days() {
        steps = 1 + below(below(10) == 0 ? 32 : 12);
        StringBuilder text = new StringBuilder();
        while (steps > 0) {
            addStep(text, 0);
        }
        return text.toString();
    }

    private void addStep(StringBuilder text, int depth) {
        steps--;
        int kind = below(16);
        switch (kind) {
            case 0, 1 -> text.append("take ").append(one(ricks)).append(";");
            case 2, 3, 4 -> text.append("hour;");
            case 5, 6 -> text.append("last ").append(number(1, 20)).append(";");
            case 7 -> text.append("net ").append(one(sides)).append(";");
            case 8 -> text.append("gap ").append(one(sides)).append(";");
            case 9 -> text.append("move ").append(one(dogs)).append(" to ").append(one(sides)).append(";");
            case 10 -> text.append("week ").append(below(3) == 0 ? number(1, 99) : 1 + below(3)).append(";");
            case 11 -> text.append("wind;");
            case 12 -> text.append(below(4) == 0 ? "stop;" : "hour;");
            default -> {
                text.append(kind == 13 ? "loop " + (below(2) == 0 ? number(1, 99) : 1 + below(9)) : "when " + test());
                text.append("; ");
                for (int k = below(4); k > 0 && steps > 0; k--) {
                    addStep(text, depth + 1);
                }
                text.append(" end;");
            }
        }
    }

    private String test() {
        String compare = " " + "<>=".charAt(below(3)) + " ";
        return switch (below(3)) {
            case 0 -> "rats " + one(ricks) + compare + (below(2) == 0 ? below(60) : number(0, 9999));
            case 1 -> "off" + compare + (below(2) == 0 ? below(60) : number(0, 9999));
            default -> "tired " + one(dogs);
        };
    }

    /** The text with a slip of the pen in it, now and then. */
    String slip(String text, int oftenOf) {
        if (text.isEmpty() || below(oftenOf) != 0) {
            return text;
        }
        StringBuilder other = new StringBuilder(text);
        int at = below(text.length());
        String signs = " \n;<>=abz0159?,AZ\t\r\u00e9";
        switch (below(5)) {
            case 0 -> other.deleteCharAt(at);
            case 1 -> other.setCharAt(at, signs.charAt(below(signs.length())));
            case 2 -> other.insert(at, signs.charAt(below(signs.length())));
            case 3 -> other.setLength(at);
            default -> {
                String[] words = "rick side dog boy net to end stop caps 7 12345 penny abcdefghi hour ; when".split(" ");
                other.insert(at, " " + words[below(words.length)] + " ");
            }
        }
        return other.toString();
    }
}
