import java.lang.annotation.Retention;
import java.lang.annotation.RetentionPolicy;

/** A test of one sentence of the document: the heading that it stands under, and its words. */
@Retention(RetentionPolicy.RUNTIME)
@interface Edge {
    String at();

    String says();
}
